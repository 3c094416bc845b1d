/** Promises 5 to 11: guests, and what the kinds feel, catch, tell and are sore at. */
public final class GuestsTest {
    // By knife and fork: blade out and straight, blade in and straight, blade out and crossed, blade in and crossed.
    private static final int[][] LAID = {{0, 0}, {1, 0}, {0, 1}, {1, 1}};

    public static void main(String[] args) {
        guest();
        of();
        feels();
        catches();
        catchesOfTwo();
        tells();
        sore();
        neighbours();
        set();
        seat();
        swap();
        turn();
        as();
        Run.end();
    }

    private static void guest() {
        Run r = new Run("5, guest");
        r.due("guest(3, 9)", 0).due("guest(0, 9)", Run.STATE).due("guest(5, 0)", 1);
        r.due("guest(-1, 1)", Run.BEYOND).due("guest(6, 1)", Run.BEYOND).due("guest(0, -1)", Run.BEYOND);
        r.due("guest(0, 10)", Run.BEYOND).due("guest(6, 9)", Run.BEYOND).due("count(0)", 2);
        r.due("of(0, 0)", 3).due("of(0, 1)", 9).due("of(0, 2)", 100).due("of(0, 3)", 0).due("of(0, 4)", 0);
        r.due("of(1, 0)", 5).due("of(1, 1)", 0).due("place(9, 3)", 0).due("place(0, 3)", 1);
        for (int g = 2; g < 8; g++) {
            r.due("guest(" + (g - 2) + ", " + g + ")", g);
        }
        r.due("guest(0, 1)", Run.FULL).due("guest(0, 9)", Run.FULL).due("guest(0, 10)", Run.BEYOND);
        r.due("guest(6, 1)", Run.BEYOND).due("count(0)", 8).due("place(1, 3)", -1);
        r.due("status(0)", 7).due("status(1)", 2).due("status(4)", 1);
    }

    private static void of() {
        Run r = new Run("6, of");
        r.after("guest(2, 5)", "guest(3, 6)", "set(0, 2, -99)", "set(0, 3, 12)", "set(0, 4, 34)", "set(1, 2, 99)");
        r.due("of(0, 0)", 2).due("of(0, 1)", 5).due("of(0, 2)", 1).due("of(0, 3)", 12).due("of(0, 4)", 34);
        r.due("of(0, 5)", 103).due("of(0, 6)", 101).due("of(0, 7)", 85).due("of(0, 8)", 2);
        r.due("of(1, 0)", 3).due("of(1, 1)", 6).due("of(1, 2)", 199).due("of(1, 8)", 1);
        r.due("of(-1, 0)", Run.BEYOND).due("of(2, 0)", Run.BEYOND).due("of(8, 0)", Run.BEYOND);
        r.due("of(0, -1)", Run.BEYOND).due("of(0, 9)", Run.BEYOND).due("status(0)", 5);
    }

    private static void feels() {
        int[] guest = {2, -3, -2, -7};
        int[] bishopWithFour = {-2, -7, -6, -11};
        feels(0, 0, 0, guest);
        feels(0, 9, 2, guest);
        feels(1, 0, 2, guest);
        feels(1, 4, 0, bishopWithFour);
        feels(1, 4, 2, bishopWithFour);
        feels(2, 9, 0, guest);
        feels(2, 0, 1, 3, -2, -1, -6);
        feels(2, 0, 2, 4, -1, 0, -5);
        feels(3, 0, 0, 1, 0, 0, 0);
        feels(3, 0, 1, 1, -2, -2, -2);
        feels(3, 0, 2, 1, -4, -4, -4);
        feels(3, 1, 0, 0, 0, 0, 0);
        feels(3, 1, 2, -4, -4, -4, -4);
        feels(4, 0, 0, guest);
        feels(4, 0, 1, guest);
        feels(4, 0, 2, 4, -6, -4, -14);
        feels(4, 4, 1, bishopWithFour);
        feels(4, 4, 2, -4, -14, -12, -22);
        feels(4, 9, 2, -14, -24, -22, -32);
        feels(5, 0, 0, 2, -3, -9, -9);
        feels(5, 5, 1, 3, -2, -9, -9);
        feels(5, 0, 2, 4, -1, -9, -9);
    }

    private static void feels(int kind, int spoon, int n, int... want) {
        for (int i = 0; i < LAID.length; i++) {
            Run r = new Run("6, what kind " + kind + " feels with " + n + " neighbours");
            r.after("guest(" + kind + ", 0)", "lay(0, 0, " + LAID[i][0] + ")", "lay(0, 1, " + LAID[i][1] + ")");
            r.after("lay(0, 2, " + spoon + ")");
            if (n >= 1) {
                r.after("guest(0, 9)");
            }
            if (n == 2) {
                r.after("guest(0, 1)");
            }
            r.due("of(0, 5)", 100 + want[i]);
        }
    }

    private static void catches() {
        catches(0, 0, -1, 0, -1);
        catches(1, 0, 0, 0, 0);
        catches(2, 1, 0, 0, -1);
        catches(3, 0, 0, -3, -3);
        catches(4, 0, 0, 0, 0);
        catches(5, 2, 0, 0, -2);
    }

    private static void catches(int kind, int... want) {
        for (int i = 0; i < LAID.length; i++) {
            Run r = new Run("6, what kind " + kind + " catches");
            r.after("guest(" + kind + ", 9)", "lay(0, 0, " + LAID[i][0] + ")", "lay(0, 1, " + LAID[i][1] + ")");
            r.after("lay(0, 2, 9)", "lay(9, 0, 1)", "lay(9, 1, 1)").due("of(0, 6)", 100);
            r.after("guest(1, 0)").due("of(0, 6)", 100 + want[i]);
        }
    }

    private static void catchesOfTwo() {
        Run r = new Run("6, what one catches of both");
        r.after("guest(5, 4)", "guest(0, 3)", "guest(0, 5)").due("of(0, 6)", 104);
        r.after("lay(3, 0, 1)").due("of(0, 6)", 102);
        r.after("lay(5, 0, 1)", "lay(5, 1, 1)").due("of(0, 6)", 98);
        r.after("turn(0, 3)").due("of(0, 6)", 97);
        r.after("lay(3, 1, 1)").due("of(0, 6)", 94);
        r.after("turn(0, 0)").due("of(0, 6)", 98);
    }

    private static void tells() {
        tellsFrom(0, 20);
        tellsFrom(2, 20);
        tellsFrom(5, 5);
        Run bishop = new Run("4, a bishop tells");
        bishop.after("guest(1, 3)", "set(0, 2, 99)").due("now(2)", 0);
        bishop.after("lay(3, 2, 1)").due("now(2)", 1);
        bishop.after("set(0, 2, -99)").due("now(2)", 1);
        Run envoy = new Run("4, an envoy never tells");
        envoy.after("guest(3, 3)", "set(0, 2, 99)", "lay(3, 2, 9)").due("now(2)", 0);
        envoy.after("set(0, 2, -99)").due("now(2)", 0);
        Run cardinal = new Run("4, a cardinal tells");
        cardinal.after("guest(4, 3)", "set(0, 2, -1)").due("now(2)", 0);
        cardinal.after("lay(3, 2, 1)").due("now(2)", 1);
        cardinal.after("set(0, 2, 0)").due("now(2)", 0);
        cardinal.after("set(0, 2, 20)").due("now(2)", 0);
    }

    private static void tellsFrom(int kind, int ease) {
        Run r = new Run("4, kind " + kind + " tells");
        r.after("guest(" + kind + ", 3)", "lay(3, 2, 9)", "set(0, 2, " + (ease - 1) + ")").due("now(2)", 0);
        r.after("lay(3, 2, 0)", "set(0, 2, " + ease + ")").due("now(2)", 1);
        r.after("set(0, 2, 99)").due("now(2)", 1);
    }

    private static void sore() {
        int[] below = {-20, -50, -15, -10, -50, -5};
        for (int kind = 0; kind < 6; kind++) {
            Run r = new Run("6, what kind " + kind + " is sore at");
            r.after("guest(" + kind + ", 1)").due("of(0, 7)", 100 + below[kind]);
            r.after("set(0, 2, " + below[kind] + ")").due("now(3)", 0).due("now(1)", 1);
            r.after("set(0, 2, " + (below[kind] - 1) + ")").due("now(3)", 1).due("now(1)", 0);
        }
    }

    private static void neighbours() {
        Run r = new Run("6, neighbours");
        for (int place : new int[] {9, 0, 1, 3, 4, 6}) {
            r.after("guest(0, " + place + ")");
        }
        r.due("of(0, 8)", 2).due("of(1, 8)", 5).due("of(2, 8)", 2).due("of(3, 8)", 16).due("of(4, 8)", 8).due("of(5, 8)", 0);
        r.after("seat(5, 5)").due("of(4, 8)", 40).due("of(5, 8)", 16);
        r.after("seat(5, 8)").due("of(0, 8)", 34).due("of(5, 8)", 1).due("of(4, 8)", 8);
    }

    private static void set() {
        Run r = new Run("7, set");
        r.after("guest(0, 0)", "guest(1, 1)");
        r.due("set(0, 2, -99)", 0).due("set(0, 2, 99)", -99).due("set(0, 2, 5)", 99).due("of(0, 2)", 105);
        r.due("set(0, 3, 9999)", 0).due("set(0, 3, 0)", 9999).due("set(0, 3, 11)", 0).due("of(0, 3)", 11);
        r.due("set(1, 4, 9999)", 0).due("set(1, 4, 0)", 9999).due("set(1, 4, 13)", 0).due("of(1, 4)", 13);
        for (String call : new String[] {
            "set(-1, 2, 0)", "set(2, 2, 0)", "set(0, 1, 0)", "set(0, 0, 0)", "set(0, 5, 0)", "set(0, 2, 100)",
            "set(0, 2, -100)", "set(0, 3, -1)", "set(0, 3, 10000)", "set(0, 4, -1)", "set(0, 4, 10000)"}) {
            r.due(call, Run.BEYOND);
        }
        r.due("of(0, 2)", 105).due("of(0, 3)", 11).due("of(0, 4)", 0);
        r.due("of(1, 2)", 100).due("of(1, 3)", 0).due("of(1, 4)", 13).due("status(0)", 11);
    }

    private static void seat() {
        Run r = new Run("8, seat");
        r.after("guest(0, 0)", "guest(1, 5)", "set(0, 2, 7)", "lay(0, 2, 3)");
        r.due("seat(0, 9)", 0).due("seat(0, 9)", 9).due("place(0, 3)", -1).due("place(9, 3)", 0).due("of(0, 1)", 9);
        r.due("seat(0, 5)", Run.STATE).due("seat(1, 9)", Run.STATE).due("of(0, 1)", 9).due("of(1, 1)", 5);
        r.due("of(0, 2)", 107).due("place(0, 2)", 3).due("place(9, 2)", 0).due("seat(1, 0)", 5).due("place(5, 3)", -1);
        r.due("seat(2, 5)", Run.BEYOND).due("seat(-1, 5)", Run.BEYOND).due("seat(0, -1)", Run.BEYOND);
        r.due("seat(0, 10)", Run.BEYOND).due("seat(2, 9)", Run.BEYOND).due("status(0)", 5).due("status(4)", 2);
    }

    private static void swap() {
        Run r = new Run("9, swap");
        r.after("guest(0, 0)", "guest(1, 5)", "guest(2, 6)", "set(0, 2, 7)", "set(1, 3, 4)");
        r.due("swap(0, 1)", 1).due("of(0, 1)", 5).due("of(1, 1)", 0).due("place(0, 3)", 1).due("place(5, 3)", 0);
        r.due("of(0, 0)", 0).due("of(0, 2)", 107).due("of(1, 3)", 4).due("of(0, 8)", 4).due("of(2, 8)", 1);
        r.due("swap(2, 0)", 1).due("of(0, 1)", 6).due("of(2, 1)", 5).due("of(0, 8)", 4);
        r.due("swap(1, 1)", Run.BEYOND).due("swap(0, 3)", Run.BEYOND).due("swap(3, 0)", Run.BEYOND);
        r.due("swap(-1, 0)", Run.BEYOND).due("swap(0, -1)", Run.BEYOND).due("swap(3, 3)", Run.BEYOND).due("status(0)", 6);
    }

    private static void turn() {
        Run r = new Run("10, turn");
        r.after("guest(0, 0)", "set(0, 2, -16)", "set(0, 3, 2)", "set(0, 4, 3)");
        r.due("turn(0, 5)", 0).due("of(0, 0)", 5).due("turn(0, 2)", 5).due("turn(0, 2)", 2).due("of(0, 0)", 2);
        r.due("of(0, 7)", 85).due("now(3)", 1).due("of(0, 2)", 84).due("of(0, 3)", 2).due("of(0, 4)", 3).due("of(0, 1)", 0);
        r.due("turn(0, -1)", Run.BEYOND).due("turn(0, 6)", Run.BEYOND).due("turn(1, 0)", Run.BEYOND);
        r.due("turn(-1, 0)", Run.BEYOND).due("of(0, 0)", 2).due("status(0)", 4);
    }

    private static void as() {
        String[] ofKinds = {"0", "01", "02", "03", "014", "025"};
        Run r = new Run("11, as");
        r.after("guest(0, 0)", "set(0, 2, -8)");
        int beyond = 0;
        for (int kind = 0; kind < 6; kind++) {
            r.after("turn(0, " + kind + ")");
            for (int other = 0; other < 6; other++) {
                boolean under = ofKinds[kind].indexOf('0' + other) >= 0;
                r.due("as(0, " + other + ")", under ? 92 : Run.KIND);
                beyond += under ? 0 : 1;
            }
        }
        r.due("status(2)", beyond).due("as(1, 0)", Run.BEYOND).due("as(-1, 0)", Run.BEYOND);
        r.due("as(0, -1)", Run.BEYOND).due("as(0, 6)", Run.BEYOND).due("as(1, 6)", Run.BEYOND).due("status(0)", 5);
    }
}
