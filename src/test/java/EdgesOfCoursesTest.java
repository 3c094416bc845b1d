/** Promises 12 to 17, each sentence by itself, at its edges. */
public final class EdgesOfCoursesTest {
    public static void main(String[] args) {
        courses();
        coursesBeyond();
        coursesState();
        on();
        onBeyond();
        mood();
        moodBeyond();
        peace();
        peaceNone();
        tells();
        tellsBeyond();
        tellsNone();
        quarrels();
        quarrelsBeyond();
        quarrelsNone();
        Edge.end(12, 17);
    }

    private static void courses() {
        Edge e = Edge.of(12, "n COURSES go (1 to 60): who is SORE then, as a set.");
        e.run().due("courses(1)", 0).due("courses(60)", 0).due("now(0)", 61);
        Run r = e.run().after("guest(0, 0)", "guest(3, 2)", "guest(3, 4)", "lay(0, 0, 1)", "lay(4, 2, 1)", "set(1, 2, -11)");
        r.after("set(2, 2, -11)").due("now(3)", 6).due("courses(1)", 4).due("courses(5)", 4).due("of(0, 2)", 82).due("now(0)", 6);
        r.after("set(0, 2, -17)").due("courses(1)", 4).due("courses(1)", 5).due("now(3)", 5);
        e.run().after("guest(0, 0)", "set(0, 2, -99)").due("courses(60)", 0).due("of(0, 2)", 121).due("of(0, 3)", 0);
        e.run().after("guest(0, 0)", "set(0, 2, -99)").due("courses(39)", 1).due("courses(1)", 0).due("of(0, 2)", 81);
    }

    private static void coursesBeyond() {
        Edge.of(12, "BEYOND.").bounds("courses(#)", 1, 60);
    }

    /** Goes past the 512th call, for nothing nearer reaches the last course: it's this program's own promise. */
    private static void coursesState() {
        Run r = Edge.of(12, "STATE: COURSE would be above 99999.").run();
        for (int i = 0; i < 1665; i++) {
            r.after("courses(60)");
        }
        r.after("courses(40)", "guest(0, 0)").due("now(0)", 99940).due("courses(60)", Run.STATE).due("courses(61)", Run.BEYOND);
        r.due("of(0, 2)", 100).due("courses(59)", 0).due("now(0)", 99999).due("courses(1)", Run.STATE).due("courses(0)", Run.BEYOND);
        r.due("now(0)", 99999).due("of(0, 2)", 199).due("status(4)", 2).due("status(0)", 2);
    }

    private static void on() {
        Edge e = Edge.of(13, "EASE (what 0), TOLD (1), QUARRELS (2) of one n COURSES (0 to 100) AHEAD.");
        Run r = e.run().after("guest(3, 0)", "guest(1, 5)", "lay(5, 2, 3)", "set(0, 2, -2)", "set(1, 3, 7)", "set(1, 4, 8)");
        r.due("on(0, 0, 0)", -2).due("on(0, 1, 0)", -1).due("on(0, 100, 0)", 98).due("on(0, 99, 0)", 97).due("on(0, 100, 1)", 0);
        r.due("on(1, 0, 1)", 7).due("on(1, 100, 1)", 107).due("on(1, 100, 0)", -99).due("on(1, 100, 2)", 8).due("of(1, 3)", 7);
        Run q = e.run().after("guest(0, 9)", "guest(0, 0)", "lay(9, 0, 1)", "lay(0, 0, 1)").due("on(0, 5, 2)", 0);
        q.due("on(0, 6, 2)", 1).due("on(1, 100, 2)", 95).due("on(0, 0, 2)", 0).due("now(0)", 0);
    }

    private static void onBeyond() {
        Edge.of(13, "BEYOND.").guests("on(#, 1, 0)").bounds("on(0, #, 0)", 0, 100).bounds("on(3, 1, #)", 0, 2);
    }

    private static void mood() {
        Edge e = Edge.of(14, "EASE of all together n COURSES (0 to 100) AHEAD.");
        e.run().due("mood(0)", 0).due("mood(100)", 0);
        Run r = e.run().after("guest(3, 0)", "guest(3, 5)", "set(0, 2, -50)", "set(1, 2, -9)");
        r.due("mood(0)", -59).due("mood(1)", -57).due("mood(99)", 139).due("mood(100)", 141).due("now(4)", 9941);
        Run low = e.run();
        for (int g = 0; g < 8; g++) {
            low.after("guest(0, " + g + ")", "lay(" + g + ", 0, 1)");
        }
        low.due("mood(100)", -792);
        Run high = e.run();
        for (int g = 0; g < 8; g++) {
            high.after("guest(0, " + g + ")");
        }
        high.due("mood(100)", 792).due("mood(0)", 0);
    }

    private static void moodBeyond() {
        Edge.of(14, "BEYOND.").bounds("mood(#)", 0, 100);
    }

    /** By the rules no PEACE comes first later than by the 94th course: a bride at -99 has one more in each. */
    private static void peace() {
        Edge e = Edge.of(15, "In how many COURSES (0 to 100) there is PEACE first.");
        e.run().due("peace()", 0);
        Run r = e.run().after("guest(5, 5)", "guest(0, 4)", "guest(2, 6)", "guest(0, 7)", "lay(5, 0, 1)", "lay(6, 1, 1)");
        r.due("peace()", 0).after("set(0, 2, -5)").due("peace()", 0).after("set(0, 2, -6)").due("peace()", 1);
        r.after("set(0, 2, -99)").due("peace()", 94).after("courses(1)").due("peace()", 93).after("courses(60)").due("peace()", 33);
        // Not before the last of several.
        e.run().after("guest(3, 0)", "guest(0, 5)", "set(0, 2, -20)", "set(1, 2, -60)").due("peace()", 20);
    }

    private static void peaceNone() {
        Edge e = Edge.of(15, "NONE.").refused(Run.NONE, "peace()");
        e.run().after("guest(0, 5)", "lay(5, 0, 1)", "set(0, 2, -21)").due("peace()", Run.NONE).due("status(3)", 1);
        // One is sore as long as the other isn't yet.
        Run r = e.run().after("guest(0, 0)", "guest(3, 5)", "lay(0, 0, 1)", "set(1, 2, -17)").due("peace()", Run.NONE);
        r.after("set(1, 2, -16)").due("peace()", 6);
    }

    private static void tells() {
        Edge e = Edge.of(16, "The how-manieth COURSE from now on (1 to 100; 1: this one) is the first in which one TELLS a thing.");
        Run r = e.run().after("guest(0, 2)", "guest(0, 3)", "lay(3, 0, 1)", "set(0, 2, 20)").due("tells(0)", 1);
        r.after("set(0, 2, 19)").due("tells(0)", 2).after("set(0, 2, -79)").due("tells(0)", 100).due("now(0)", 0).due("now(5)", 0);
        r.after("courses(60)").due("tells(0)", 40).after("courses(39)").due("tells(0)", 1).due("of(0, 3)", 0);
        r.after("courses(1)").due("of(0, 3)", 1);
        Run down = e.run().after("guest(4, 2)", "lay(2, 2, 3)").due("tells(0)", 2).after("set(0, 2, 98)").due("tells(0)", 100);
        down.after("set(0, 2, -1)").due("tells(0)", 1);
    }

    private static void tellsBeyond() {
        Edge.of(16, "BEYOND.").guests("tells(#)").run().due("tells(0)", Run.BEYOND);
    }

    private static void tellsNone() {
        Edge e = Edge.of(16, "NONE.").refused(Run.NONE, "tells(0)", "tells(3)");
        Run r = e.run().after("guest(0, 2)", "guest(0, 3)", "lay(3, 0, 1)", "set(0, 2, -80)").due("tells(0)", Run.NONE);
        r.due("tells(1)", Run.NONE).due("status(3)", 2);
        e.run().after("guest(4, 2)", "lay(2, 2, 3)", "set(0, 2, 99)").due("tells(0)", Run.NONE);
    }

    /** Two bishops beside one another with three hairs out feel -1 and are sore below -50. */
    private static Run twoBishops(Edge e, int ease) {
        Run r = e.run().after("guest(1, 9)", "guest(1, 0)", "lay(9, 2, 3)", "lay(0, 2, 3)", "guest(0, 5)");
        return r.after("set(0, 2, " + ease + ")", "set(1, 2, -99)");
    }

    private static void quarrels() {
        Edge e = Edge.of(17, "In how many COURSES (1 to 100) QUARRELS of one are more first.");
        twoBishops(e, 49).due("quarrels(0)", 100).due("quarrels(1)", 100).due("count(2)", 0).due("now(0)", 0);
        twoBishops(e, 48).due("quarrels(0)", 99);
        twoBishops(e, -49).due("quarrels(0)", 2).after("set(0, 4, 5)").due("quarrels(0)", 2);
        twoBishops(e, -50).due("quarrels(0)", 1).after("set(0, 4, 9998)").due("quarrels(0)", 1);
    }

    private static void quarrelsBeyond() {
        Edge.of(17, "BEYOND.").guests("quarrels(#)").run().due("quarrels(0)", Run.BEYOND);
    }

    private static void quarrelsNone() {
        Edge e = Edge.of(17, "NONE.").refused(Run.NONE, "quarrels(3)");
        twoBishops(e, 50).due("quarrels(0)", Run.NONE).due("quarrels(1)", Run.NONE).due("quarrels(2)", Run.NONE).due("status(3)", 3);
        // Held, they can't be more.
        twoBishops(e, -99).after("set(0, 4, 9999)").due("quarrels(0)", Run.NONE).due("quarrels(1)", 1);
    }
}
