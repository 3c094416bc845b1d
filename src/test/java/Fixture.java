import java.util.ArrayList;
import java.util.List;

/** A dinner with something of everything on it, on which calls are asked that may change nothing. */
final class Fixture {
    /** How many guests it has, for calls that name one too many. */
    static final int GUESTS = 4;

    private Fixture() {
    }

    /** Four guests, two of whom are sore for good beside one another, 118 bytes of a text, three sheets and an image. */
    static Run laid(String name) {
        Run r = new Run(name);
        r.after("guest(0, 0)", "guest(1, 1)", "guest(4, 9)", "guest(3, 5)", "lay(0, 0, 1)", "lay(1, 1, 1)", "lay(1, 2, 7)");
        r.after("lay(9, 2, 4)", "set(0, 2, -60)", "set(1, 2, -70)", "set(2, 2, 20)", "set(1, 3, 4)", "courses(2)");
        r.after("sheet(0, 8, 3)", "sheet(1, 8, 2)", "sheet(2, 64, 2)", "write(0, 0, -62)", "write(0, 2, 5)", "write(2, 1, 99)");
        r.after("image()", "set(3, 4, 2)", "seat(3, 4)");
        StringBuilder text = new StringBuilder("change 0 1; bride 7; lay 3 heart");
        while (text.length() < 118) {
            text.append(' ');
        }
        return r.feed(text.toString());
    }

    /** The call answers the finding, counts it once in status() and changes nothing else. */
    static void refuses(String name, String call, int finding) {
        Run r = laid(name + ", " + call);
        List<Long> before = seen(r);
        long[] statusBefore = status(r);
        r.due(call, finding);
        keeps(r, before, statusBefore, Run.BEYOND - finding);
        endsAsItWas(r, false);
    }

    /** The call answers no finding and changes nothing. */
    static void changesNothing(String call) {
        Run r = laid(call);
        List<Long> before = seen(r);
        long[] statusBefore = status(r);
        r.ask(call);
        keeps(r, before, statusBefore, -1);
        endsAsItWas(r, call.equals("image()"));
    }

    private static void keeps(Run r, List<Long> before, long[] statusBefore, int counted) {
        long[] statusThen = status(r);
        for (int which = -1; which < 7; which++) {
            int more = counted >= 0 && (which == -1 || which == counted) ? 1 : 0;
            r.same("status(" + which + ") then", statusThen[which + 1], statusBefore[which + 1] + more);
        }
        r.same("all else then", seen(r).equals(before) ? 1 : 0, 1);
    }

    /** What can be seen only by changing it: how long the sheets are, what the tape tells, what the image keeps. */
    private static void endsAsItWas(Run r, boolean imageIsNew) {
        r.due("write(0, 3, 1)", Run.BEYOND).due("write(1, 2, 1)", Run.BEYOND).due("write(2, 2, 1)", Run.BEYOND);
        r.due("write(3, 0, 1)", Run.MISSING).due("dinner()", 3).due("count(0)", 5).due("undo()", 4);
        r.due("of(3, 4)", imageIsNew ? 2 : 0).due("of(3, 1)", imageIsNew ? 4 : 5);
    }

    private static List<Long> seen(Run r) {
        List<Long> all = new ArrayList<>();
        for (int what = 0; what < 6; what++) {
            all.add(r.ask("now(" + what + ")"));
        }
        for (int i = 0; i < 40; i++) {
            all.add(r.ask("place(" + i / 4 + ", " + i % 4 + ")"));
        }
        for (int i = 0; i < 9 * GUESTS; i++) {
            all.add(r.ask("of(" + i / 9 + ", " + i % 9 + ")"));
        }
        for (int what = 0; what < 4; what++) {
            all.add(r.ask("count(" + what + ")"));
        }
        int[] sizes = {3, 2, 2};
        for (int s = 0; s < 3; s++) {
            for (int i = 0; i < sizes[s]; i++) {
                long was = r.ask("write(" + s + ", " + i + ", 0)");
                r.ask("write(" + s + ", " + i + ", " + was + ")");
                all.add(was);
            }
        }
        return all;
    }

    private static long[] status(Run r) {
        long[] all = new long[8];
        for (int which = -1; which < 7; which++) {
            all[which + 1] = r.ask("status(" + which + ")");
        }
        return all;
    }
}
