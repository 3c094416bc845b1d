/** Promises 1 to 4: a new object and the table. */
public final class TableTest {
    public static void main(String[] args) {
        aNewObject();
        lay();
        place();
        now();
        nowAtItsEdges();
        Run.end();
    }

    private static void aNewObject() {
        Run r = new Run("1, a new object");
        for (int which = -1; which <= 6; which++) {
            r.due("status(" + which + ")", 0);
        }
        for (int p = 0; p < 10; p++) {
            r.due("place(" + p + ", 0)", 0).due("place(" + p + ", 1)", 0);
            r.due("place(" + p + ", 2)", 0).due("place(" + p + ", 3)", -1);
        }
        r.due("now(0)", 0).due("now(1)", 1).due("now(2)", 0).due("now(3)", 0).due("now(4)", 10000).due("now(5)", 0);
        for (int what = 0; what < 4; what++) {
            r.due("count(" + what + ")", 0);
        }
        r.due("of(0, 0)", Run.BEYOND).due("wipe()", 0).due("dinner()", -1).due("tear()", 0).due("undo()", Run.NONE);
        for (int s = 0; s < 4; s++) {
            r.due("write(" + s + ", 0, 1)", Run.MISSING);
        }
    }

    private static void lay() {
        Run r = new Run("2, lay");
        r.due("lay(0, 0, 1)", 0).due("lay(0, 0, 1)", 1).due("lay(0, 0, 0)", 1).due("lay(0, 0, 1)", 0);
        r.due("lay(9, 1, 1)", 0).due("lay(9, 1, 0)", 1).due("lay(9, 1, 1)", 0);
        r.due("lay(4, 2, 9)", 0).due("lay(4, 2, 3)", 9).due("lay(4, 2, 0)", 3).due("lay(4, 2, 7)", 0);
        r.due("place(0, 0)", 1).due("place(0, 1)", 0).due("place(0, 2)", 0);
        r.due("place(9, 0)", 0).due("place(9, 1)", 1).due("place(9, 2)", 0);
        r.due("place(4, 0)", 0).due("place(4, 1)", 0).due("place(4, 2)", 7);
        for (String call : new String[] {
            "lay(-1, 0, 0)", "lay(10, 0, 0)", "lay(2147483647, 0, 0)", "lay(0, -1, 0)", "lay(0, 3, 0)",
            "lay(0, 0, 2)", "lay(0, 0, -1)", "lay(9, 1, 2)", "lay(9, 1, -1)", "lay(4, 2, 10)", "lay(4, 2, -1)"}) {
            r.due(call, Run.BEYOND);
        }
        r.due("place(0, 0)", 1).due("place(9, 1)", 1).due("place(4, 2)", 7).due("status(0)", 11).due("status(-1)", 11);
    }

    private static void place() {
        Run r = new Run("3, place");
        r.after("guest(0, 3)", "guest(1, 0)", "lay(3, 2, 5)", "lay(3, 1, 1)", "lay(0, 0, 1)");
        r.due("place(3, 0)", 0).due("place(3, 1)", 1).due("place(3, 2)", 5).due("place(3, 3)", 0);
        r.due("place(0, 0)", 1).due("place(0, 3)", 1).due("place(1, 3)", -1);
        r.after("seat(0, 9)").due("place(3, 3)", -1).due("place(9, 3)", 0).due("place(3, 2)", 5);
        r.after("swap(0, 1)").due("place(9, 3)", 1).due("place(0, 3)", 0);
        r.due("place(-1, 0)", Run.BEYOND).due("place(10, 0)", Run.BEYOND);
        r.due("place(0, -1)", Run.BEYOND).due("place(0, 4)", Run.BEYOND).due("status(0)", 4);
    }

    private static void now() {
        Run r = new Run("4, now");
        r.after("guest(0, 0)", "guest(1, 2)", "guest(5, 4)", "set(0, 2, 20)", "set(1, 2, -51)", "set(2, 2, -6)");
        r.after("set(0, 3, 7)", "set(1, 3, 100)", "set(2, 3, 9999)");
        r.due("now(0)", 0).due("now(1)", 0).due("now(2)", 1).due("now(3)", 6).due("now(4)", 9963).due("now(5)", 10106);
        r.after("lay(2, 2, 1)").due("now(2)", 3);
        r.after("set(1, 2, -50)").due("now(3)", 4).due("now(1)", 0);
        r.after("set(2, 2, -5)").due("now(3)", 0).due("now(1)", 1);
        r.after("courses(60)", "courses(39)").due("now(0)", 99);
        r.due("now(-1)", Run.BEYOND).due("now(6)", Run.BEYOND).due("status(0)", 2);
    }

    private static void nowAtItsEdges() {
        Run low = new Run("4, now, all at -99");
        Run high = new Run("4, now, all at 99");
        for (int g = 0; g < 8; g++) {
            low.after("guest(0, " + g + ")", "set(" + g + ", 2, -99)");
            high.after("guest(0, " + g + ")", "set(" + g + ", 2, 99)", "set(" + g + ", 3, 9999)");
        }
        low.due("now(4)", 10000 - 8 * 99).due("now(3)", 255).due("now(2)", 0).due("now(1)", 0);
        high.due("now(4)", 10000 + 8 * 99).due("now(3)", 0).due("now(2)", 255).due("now(1)", 1).due("now(5)", 8 * 9999);
    }
}
