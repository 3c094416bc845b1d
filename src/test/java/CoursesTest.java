/** Promises 12 to 17: courses, and what comes ahead. */
public final class CoursesTest {
    public static void main(String[] args) {
        courses();
        easeIsHeld();
        toldGoesByHowItBegan();
        quarrelsGoByHowItEnded();
        quarrelsAreCountedByNeighbours();
        aWholeCourse();
        aFullTable();
        coursesEnd();
        on();
        mood();
        peace();
        tells();
        quarrels();
        Run.end();
    }

    private static void courses() {
        Run r = new Run("12, courses");
        r.after("guest(0, 0)");
        r.due("courses(1)", 0).due("of(0, 2)", 102).due("now(0)", 1).due("courses(9)", 0).due("of(0, 2)", 120);
        r.due("of(0, 3)", 0).due("courses(60)", 0).due("of(0, 2)", 199).due("of(0, 3)", 60).due("now(0)", 70);
        r.due("courses(0)", Run.BEYOND).due("courses(-1)", Run.BEYOND).due("courses(61)", Run.BEYOND);
        r.due("now(0)", 70).due("of(0, 3)", 60).due("status(0)", 3);
        Run sore = new Run("12, courses, who is sore then");
        sore.after("guest(0, 0)", "guest(3, 2)", "guest(1, 4)", "set(0, 2, -99)", "set(1, 2, -11)", "set(2, 2, -99)");
        sore.due("courses(1)", 5).due("now(3)", 5).due("courses(38)", 1).due("courses(1)", 0);
        new Run("12, courses with nobody").due("courses(60)", 0).due("now(0)", 60);
    }

    private static void easeIsHeld() {
        Run r = new Run("12, ease is held");
        r.after("guest(0, 0)", "set(0, 2, 98)", "courses(1)").due("of(0, 2)", 199);
        r.after("courses(1)").due("of(0, 2)", 199);
        r.after("lay(0, 0, 1)", "courses(1)").due("of(0, 2)", 196);
        r.after("set(0, 2, -97)", "courses(1)").due("of(0, 2)", 1);
        r.after("courses(1)").due("of(0, 2)", 1);
        r.after("lay(0, 0, 0)", "courses(1)").due("of(0, 2)", 3);
    }

    private static void toldGoesByHowItBegan() {
        Run r = new Run("12, told goes by how it began");
        r.after("guest(0, 0)", "set(0, 2, 19)", "courses(1)").due("of(0, 2)", 121).due("of(0, 3)", 0);
        r.after("set(0, 2, 20)", "lay(0, 0, 1)", "courses(1)").due("of(0, 2)", 117).due("of(0, 3)", 1);
        r.after("set(0, 2, 20)", "set(0, 3, 9998)", "courses(1)").due("of(0, 3)", 9999);
        r.after("set(0, 2, 20)", "courses(1)").due("of(0, 3)", 9999);
    }

    private static void quarrelsGoByHowItEnded() {
        Run r = new Run("12, quarrels go by how it ended");
        r.after("guest(0, 9)", "guest(0, 0)", "lay(9, 0, 1)", "lay(0, 0, 1)", "set(0, 2, -16)", "set(1, 2, -17)");
        r.due("courses(1)", 2).due("of(0, 2)", 80).due("of(1, 2)", 79).due("of(0, 4)", 0).due("of(1, 4)", 0);
        r.due("courses(1)", 3).due("of(0, 4)", 1).due("of(1, 4)", 1).due("count(2)", 2);
        r.after("lay(9, 0, 0)", "lay(0, 0, 0)", "set(0, 2, -22)", "set(1, 2, -99)").due("now(3)", 3);
        r.due("courses(1)", 2).due("of(0, 4)", 1).due("of(1, 4)", 1);
        r.after("seat(1, 1)", "set(0, 2, -99)").due("courses(1)", 3).due("of(0, 4)", 1).due("of(1, 4)", 1);
    }

    private static void quarrelsAreCountedByNeighbours() {
        Run r = new Run("12, quarrels are counted by neighbours");
        r.after("guest(1, 3)", "guest(0, 4)", "guest(3, 5)", "guest(2, 6)");
        r.after("set(0, 2, -99)", "set(1, 2, -99)", "set(2, 2, -99)").due("courses(1)", 7);
        r.due("of(0, 4)", 1).due("of(1, 4)", 2).due("of(2, 4)", 1).due("of(3, 4)", 0);
        r.after("set(1, 4, 9998)", "set(0, 4, 9999)").due("courses(1)", 7);
        r.due("of(0, 4)", 9999).due("of(1, 4)", 9999).due("of(2, 4)", 2).due("count(2)", 20000);
        r.after("set(0, 2, -51)", "set(1, 4, 0)", "courses(1)").due("now(3)", 6).due("of(1, 4)", 1).due("of(2, 4)", 3);
    }

    private static void aWholeCourse() {
        Run r = new Run("12, a whole course");
        for (int kind = 0; kind < 6; kind++) {
            r.after("guest(" + kind + ", " + kind + ")");
        }
        r.after("lay(0, 0, 1)", "lay(2, 1, 1)", "lay(4, 2, 1)");
        // Feels and catches: -3 and 0, 2 and 0, 0 and 2, 1 and -3, 2 and 0 (twice 1), 3 and 2.
        r.due("courses(1)", 0);
        int[] ease = {-3, 2, 2, -2, 2, 5};
        for (int g = 0; g < 6; g++) {
            r.due("of(" + g + ", 2)", 100 + ease[g]);
        }
        r.due("courses(1)", 0).due("now(5)", 1).due("of(5, 3)", 1);
    }

    private static void aFullTable() {
        Run r = new Run("12, a full table");
        for (int g = 0; g < 8; g++) {
            r.after("guest(0, " + (g + 1) + ")", "lay(" + g + ", 0, 1)", "set(" + g + ", 2, -18)");
        }
        // All but the last feel -3 and catch -1 of each beside them, but of the last; the last feels 2 and catches -1.
        r.due("courses(1)", 127);
        int[] ease = {-22, -23, -23, -23, -23, -23, -22, -17};
        int[] quarrels = {1, 2, 2, 2, 2, 2, 1, 0};
        for (int g = 0; g < 8; g++) {
            r.due("of(" + g + ", 2)", 100 + ease[g]).due("of(" + g + ", 4)", quarrels[g]);
        }
        r.due("on(7, 2, 0)", -15).due("mood(1)", -176 - 2 * 4 - 5 * 5 + 1).due("quarrels(7)", Run.NONE);
    }

    /** Goes past the 512th call, for nothing nearer reaches the last course: it's this program's own promise. */
    private static void coursesEnd() {
        Run r = new Run("12, courses end");
        r.after("guest(0, 0)");
        for (int i = 0; i < 1666; i++) {
            r.after("courses(60)");
        }
        r.after("set(0, 2, 0)");
        r.due("now(0)", 99960).due("courses(40)", Run.STATE).due("courses(61)", Run.BEYOND).due("of(0, 2)", 100);
        r.due("courses(39)", 0).due("now(0)", 99999).due("courses(1)", Run.STATE).due("of(0, 2)", 178);
        r.due("now(0)", 99999).due("on(0, 1, 0)", 80).due("status(4)", 2);
    }

    private static void on() {
        Run r = new Run("13, on");
        r.after("guest(0, 2)", "guest(1, 5)", "lay(5, 2, 3)", "set(1, 3, 50)", "set(1, 4, 60)");
        r.due("on(0, 0, 0)", 0).due("on(0, 1, 0)", 2).due("on(0, 49, 0)", 98).due("on(0, 100, 0)", 99);
        r.due("on(0, 10, 1)", 0).due("on(0, 11, 1)", 1).due("on(0, 100, 1)", 90).due("on(0, 100, 2)", 0);
        r.due("on(1, 7, 0)", -7).due("on(1, 100, 0)", -99).due("on(1, 100, 1)", 150).due("on(1, 0, 2)", 60);
        Run q = new Run("13, on, quarrels");
        q.after("guest(0, 9)", "guest(0, 0)", "lay(9, 0, 1)", "lay(0, 0, 1)");
        q.due("on(0, 5, 0)", -20).due("on(0, 5, 2)", 0).due("on(0, 6, 2)", 1).due("on(1, 10, 2)", 5);
        q.due("now(0)", 0).due("of(0, 2)", 100).due("of(0, 4)", 0);
        for (String call : new String[] {
            "on(-1, 0, 0)", "on(2, 0, 0)", "on(0, -1, 0)", "on(0, 101, 0)", "on(0, 0, -1)", "on(0, 0, 3)"}) {
            r.due(call, Run.BEYOND);
        }
        r.due("status(0)", 6).due("now(0)", 0).due("of(0, 2)", 100).due("of(1, 3)", 50);
    }

    private static void mood() {
        Run r = new Run("14, mood");
        r.due("mood(0)", 0).due("mood(100)", 0);
        r.after("guest(0, 2)", "guest(1, 5)", "lay(5, 2, 3)", "set(0, 2, 7)");
        r.due("mood(0)", 7).due("mood(1)", 8).due("mood(46)", 53).due("mood(99)", 0).due("mood(100)", 0);
        r.due("mood(-1)", Run.BEYOND).due("mood(101)", Run.BEYOND).due("now(4)", 10007).due("now(0)", 0);
    }

    private static void peace() {
        Run r = new Run("15, peace");
        r.due("peace()", 0).after("guest(0, 2)", "set(0, 2, -20)").due("peace()", 0);
        r.after("set(0, 2, -21)").due("peace()", 1).after("set(0, 2, -99)").due("peace()", 40).due("of(0, 2)", 1);
        r.after("guest(3, 4)", "set(1, 2, -99)").due("peace()", 89).after("set(1, 2, -91)").due("peace()", 81);
        r.after("lay(2, 0, 1)").due("peace()", Run.NONE).due("status(3)", 1).due("now(0)", 0);
    }

    private static void tells() {
        Run r = new Run("16, tells");
        r.after("guest(0, 2)", "guest(0, 3)", "lay(3, 0, 1)");
        r.due("tells(0)", 21).due("tells(1)", Run.NONE).after("set(1, 2, 20)").due("tells(1)", 1);
        r.after("set(0, 2, -79)").due("tells(0)", 100).after("set(0, 2, -80)").due("tells(0)", Run.NONE);
        r.after("set(0, 2, 19)").due("tells(0)", 2).after("turn(1, 3)").due("tells(1)", Run.NONE);
        r.due("tells(-1)", Run.BEYOND).due("tells(2)", Run.BEYOND).due("status(3)", 3).due("status(0)", 2);
        r.due("now(0)", 0).due("now(5)", 0);
    }

    private static void quarrels() {
        Run r = new Run("17, quarrels");
        r.after("guest(1, 2)", "guest(1, 3)", "lay(3, 2, 3)", "lay(2, 2, 3)", "guest(0, 7)");
        r.due("quarrels(0)", 51).due("quarrels(1)", 51).due("quarrels(2)", Run.NONE);
        r.after("set(0, 2, 49)").due("quarrels(0)", 100).due("quarrels(1)", 100);
        r.after("set(0, 2, 50)").due("quarrels(0)", Run.NONE).after("set(0, 2, -99)", "set(1, 2, -99)");
        r.due("quarrels(0)", 1).after("set(0, 4, 9998)").due("quarrels(0)", 1);
        r.after("set(0, 4, 9999)").due("quarrels(0)", Run.NONE).due("quarrels(1)", 1);
        r.due("quarrels(-1)", Run.BEYOND).due("quarrels(3)", Run.BEYOND).due("status(3)", 3).due("status(0)", 2);
        r.due("of(1, 4)", 0).due("now(0)", 0);
    }
}
