/** Promises 18 to 23, each sentence by itself, at its edges. */
public final class EdgesOfBestTest {
    public static void main(String[] args) {
        best();
        bestByHowFar();
        bestOfSeveral();
        bestBeyond();
        laid();
        laidOfSeveral();
        laidBeyond();
        knife();
        knifeOfSeveral();
        knifeBeyond();
        kind();
        kindOfSeveral();
        kindBeyond();
        spoon();
        spoonWithV();
        spoonBeyond();
        spoonNone();
        change();
        changeOfSeveral();
        changeBeyond();
        changeNone();
        Edge.end(18, 23);
    }

    private static Run layAll(Run r, int what, int v) {
        for (int place = 0; place < 10; place++) {
            r.after("lay(" + place + ", " + what + ", " + v + ")");
        }
        return r;
    }

    private static void best() {
        Edge e = Edge.of(18, "The PLACE (with nobody else AT it) AT which one had best be now,");
        Run own = layAll(e.run(), 1, 1).after("lay(9, 1, 0)", "guest(0, 9)").due("best(0, 1)", 9).after("seat(0, 0)").due("best(0, 1)", 9);
        own.due("of(0, 1)", 0).after("guest(1, 9)", "lay(8, 1, 0)").due("best(0, 1)", 8).due("best(1, 1)", 8);
        Run full = e.run();
        for (int g = 0; g < 8; g++) {
            full.after("guest(1, " + g + ")");
        }
        // Of ten places two are free: these and one's own are all there are.
        full.after("lay(3, 0, 1)", "lay(8, 0, 1)").due("best(3, 1)", 9).after("lay(9, 0, 1)").due("best(3, 1)", 3);
        full.after("lay(3, 1, 1)").due("best(3, 1)", 8).due("best(0, 1)", 0).due("best(7, 1)", 7);
    }

    /** A lady has one or two more beside others; held to 99 it is all one in the end. */
    private static void bestByHowFar() {
        Edge e = Edge.of(18, "so that its EASE is most n COURSES (1 to 40) AHEAD;");
        Run r = e.run().after("guest(2, 2)", "guest(0, 5)", "guest(0, 7)", "set(0, 2, 90)");
        r.due("best(0, 1)", 6).due("best(0, 2)", 6).due("best(0, 3)", 4).due("best(0, 5)", 0);
        // Alone she comes to 97 in 39 courses and to 99 in 40; beside the other she is there long before.
        Run far = e.run().after("guest(2, 2)", "guest(0, 5)", "set(0, 2, 19)").due("best(0, 39)", 4).due("best(0, 40)", 0);
        far.due("of(0, 1)", 2).due("now(0)", 0);
    }

    private static void bestOfSeveral() {
        Edge e = Edge.of(18, "of several the least.");
        e.run().after("guest(0, 5)").due("best(0, 1)", 0).due("best(0, 40)", 0).after("lay(0, 0, 1)").due("best(0, 40)", 1);
        layAll(e.run(), 0, 1).after("guest(0, 7)", "set(0, 2, -99)", "lay(2, 0, 0)").due("best(0, 1)", 2);
        layAll(e.run(), 0, 1).after("guest(0, 7)", "set(0, 2, -99)").due("best(0, 1)", 0).due("best(0, 40)", 0);
        e.run().after("guest(0, 7)", "set(0, 2, 99)").due("best(0, 1)", 0);
    }

    private static void bestBeyond() {
        Edge.of(18, "BEYOND.").guests("best(#, 1)").bounds("best(0, #)", 1, 40).run().due("best(0, 1)", Run.BEYOND);
    }

    private static void laid() {
        Edge e = Edge.of(19, "How a PLACE had best be laid now (KNIFE, and twice FORK: 0 to 3; SPOON as it is), "
            + "so that EASE of all together is most n COURSES (1 to 40) AHEAD;");
        Run r = e.run().after("guest(4, 0)", "guest(5, 9)", "guest(3, 1)", "lay(0, 0, 1)", "lay(0, 1, 1)", "lay(0, 2, 9)");
        r.due("laid(0, 1)", 0).due("laid(0, 40)", 0).due("laid(9, 1)", 0).due("laid(5, 40)", 0);
        r.due("place(0, 0)", 1).due("place(0, 1)", 1).due("place(0, 2)", 9);
    }

    /** By the rules no blade in and no fork crossed ever makes anybody easier, so the least is always 0. */
    private static void laidOfSeveral() {
        Edge e = Edge.of(19, "of several the least.");
        e.run().due("laid(0, 1)", 0).due("laid(9, 40)", 0).after("lay(9, 0, 1)", "lay(9, 1, 1)").due("laid(9, 1)", 0);
        e.run().after("guest(0, 3)", "lay(3, 0, 1)", "lay(3, 1, 1)", "set(0, 2, 99)").due("laid(2, 1)", 0).due("laid(3, 1)", 0);
        Run held = e.run();
        for (int g = 0; g < 8; g++) {
            held.after("guest(1, " + g + ")", "set(" + g + ", 2, -99)", "lay(" + g + ", 0, 1)", "lay(" + g + ", 2, 9)");
        }
        held.due("laid(3, 1)", 0).due("mood(1)", -792);
    }

    private static void laidBeyond() {
        Edge.of(19, "BEYOND.").places("laid(#, 1)").bounds("laid(0, #)", 1, 40);
    }

    private static void knife() {
        Edge e = Edge.of(20, "The PLACE whose KNIFE, the other way round, lets EASE of all together be most n COURSES (1 to 40) AHEAD;");
        Run r = e.run().after("guest(0, 9)", "lay(9, 0, 1)").due("knife(1)", 9).due("knife(40)", 9).due("place(9, 0)", 1);
        r.after("guest(0, 0)", "lay(0, 0, 1)", "set(0, 2, 99)", "turn(0, 1)").due("knife(1)", 0).after("set(0, 2, 0)").due("knife(1)", 9);
        // Blades in at nobody's place do nothing; a blade turned in at a guest's does harm.
        Run full = e.run();
        for (int g = 0; g < 8; g++) {
            full.after("guest(0, " + g + ")");
        }
        full.due("knife(1)", 8).after("seat(0, 8)").due("knife(1)", 0);
        // A blade out is 5 more for either in one course; in forty the one goes to -21 else, the other no lower than -99.
        Run far = e.run().after("guest(1, 0)", "guest(1, 5)", "lay(5, 0, 1)", "lay(0, 0, 1)", "lay(5, 2, 3)", "set(0, 2, 99)");
        far.due("knife(1)", 5).due("knife(40)", 0);
    }

    private static void knifeOfSeveral() {
        Edge e = Edge.of(20, "of several the least.");
        e.run().due("knife(1)", 0).due("knife(40)", 0).after("guest(0, 0)").due("knife(1)", 1).after("guest(0, 1)").due("knife(1)", 2);
        e.run().after("guest(0, 3)", "guest(0, 7)", "lay(3, 0, 1)", "lay(7, 0, 1)").due("knife(1)", 3);
        Run held = e.run();
        for (int g = 0; g < 8; g++) {
            held.after("guest(1, " + g + ")", "set(" + g + ", 2, -99)", "lay(" + g + ", 1, 1)");
        }
        held.due("knife(40)", 0).due("mood(40)", -792);
    }

    private static void knifeBeyond() {
        Edge.of(20, "BEYOND.").bounds("knife(#)", 1, 40);
    }

    private static void kind() {
        Edge e = Edge.of(21, "The KIND as one of which EASE of one is most n COURSES (1 to 40) AHEAD;");
        Run bride = e.run().after("guest(3, 5)", "guest(0, 4)", "guest(0, 6)").due("kind(0, 1)", 5).due("of(0, 0)", 3);
        bride.after("set(0, 2, 90)").due("kind(0, 2)", 2).due("kind(0, 5)", 0).after("lay(5, 1, 1)").due("kind(0, 1)", 2);
        e.run().after("guest(0, 5)", "lay(5, 0, 1)").due("kind(0, 1)", 3).due("kind(0, 40)", 3);
        e.run().after("guest(0, 5)", "guest(1, 4)", "lay(4, 0, 1)", "lay(4, 1, 1)").due("kind(0, 1)", 1);
        Run cardinal = e.run().after("guest(0, 5)", "guest(1, 4)", "guest(1, 6)", "lay(4, 0, 1)", "lay(4, 1, 1)", "lay(6, 0, 1)");
        cardinal.after("lay(6, 1, 1)").due("kind(0, 1)", 4).due("kind(0, 24)", 4).due("kind(0, 25)", 4);
    }

    private static void kindOfSeveral() {
        Edge e = Edge.of(21, "of several the least.");
        e.run().after("guest(5, 5)").due("kind(0, 1)", 0).due("kind(0, 40)", 0).after("set(0, 2, 99)").due("kind(0, 1)", 0);
        Run held = e.run().after("guest(5, 5)", "guest(0, 4)", "lay(5, 0, 1)", "lay(5, 1, 1)", "set(0, 2, -99)");
        held.due("kind(0, 1)", 0).due("kind(0, 40)", 0);
    }

    private static void kindBeyond() {
        Edge.of(21, "BEYOND.").guests("kind(#, 1)").bounds("kind(0, #)", 1, 40).run().due("kind(0, 1)", Run.BEYOND);
    }

    private static void spoon() {
        Edge e = Edge.of(22, "The greatest SPOON (0 to 9) at a PLACE");
        e.run().due("spoon(0, 1, 0)", 9).due("spoon(9, 40, 0)", 9).due("spoon(9, 40, 1)", Run.NONE);
        Run r = e.run().after("guest(1, 9)", "lay(9, 2, 4)");
        for (int s = 0; s < 10; s++) {
            r.due("spoon(9, 1, " + (2 - s) + ")", s).due("spoon(9, 10, " + (20 - 10 * s) + ")", s);
        }
        r.due("place(9, 2)", 4).due("now(0)", 0);
    }

    private static void spoonWithV() {
        Edge e = Edge.of(22, "with which EASE of all together is v (-999 to 999) or more n COURSES (1 to 40) AHEAD.");
        e.bounds("spoon(0, 1, #)", -999, 999);
        Run r = e.run().after("guest(1, 5)").due("spoon(5, 40, -999)", 9).due("spoon(5, 40, 999)", Run.NONE).due("spoon(5, 40, -99)", 9);
        r.due("spoon(5, 40, -98)", 4).due("spoon(5, 40, -80)", 4).due("spoon(5, 40, -79)", 3).due("spoon(5, 40, 80)", 0);
        r.due("spoon(5, 40, 81)", Run.NONE).due("spoon(5, 1, 2)", 0).due("spoon(5, 1, 3)", Run.NONE);
        r.after("guest(0, 0)").due("spoon(5, 1, 4)", 0).due("spoon(5, 1, 3)", 1);
    }

    private static void spoonBeyond() {
        Edge e = Edge.of(22, "BEYOND.").places("spoon(#, 1, 0)").bounds("spoon(0, #, 0)", 1, 40).bounds("spoon(9, 40, #)", -999, 999);
        e.beyond("spoon(10, 0, 1000)");
    }

    private static void spoonNone() {
        Edge e = Edge.of(22, "NONE.").refused(Run.NONE, "spoon(0, 1, 999)", "spoon(1, 40, 999)", "spoon(8, 1, 0)");
        e.run().after("guest(1, 5)", "lay(5, 0, 1)").due("spoon(5, 1, -3)", 0).due("spoon(5, 1, -2)", Run.NONE).due("status(3)", 1);
    }

    /** All but the sixth and the last can't change without being as sore beside one another as before, or nearly. */
    private static void change() {
        Edge e = Edge.of(23, "The two that had best change PLACES, so that QUARRELS of all together are fewest n COURSES (1 to 40) AHEAD, "
            + "fewer than as it is: 10 times the lesser and the other one;");
        Run last = e.run();
        for (int place : new int[] {1, 3, 0, 4, 5, 6, 2, 8}) {
            last.after("guest(0, " + place + ")");
        }
        last.after("set(0, 2, -99)", "set(1, 2, -99)", "set(4, 2, -99)", "set(5, 2, -99)", "set(6, 2, -99)");
        last.due("change(1)", 67).due("change(39)", 67).due("of(6, 1)", 2).due("of(7, 1)", 8).due("count(2)", 0);
        last.after("swap(6, 7)").due("change(1)", Run.NONE);
        Run first = e.run().after("guest(0, 0)", "guest(0, 5)", "guest(0, 9)", "set(0, 2, -99)", "set(2, 2, -99)").due("change(1)", 1);
        first.due("change(40)", 1);
    }

    private static void changeOfSeveral() {
        Edge e = Edge.of(23, "of several the least.");
        Run r = e.run().after("guest(0, 0)", "guest(0, 1)", "guest(0, 5)", "guest(0, 7)", "set(0, 2, -99)", "set(1, 2, -99)");
        r.due("change(1)", 2).due("change(39)", 2).after("seat(2, 2)").due("change(1)", 3).after("seat(2, 5)", "set(2, 2, -99)");
        r.due("change(1)", 3).after("set(2, 2, 0)", "turn(0, 1)", "lay(0, 2, 9)").due("change(1)", 2);
    }

    private static void changeBeyond() {
        Edge e = Edge.of(23, "BEYOND.").bounds("change(#)", 1, 40);
        e.run().due("change(0)", Run.BEYOND).due("change(41)", Run.BEYOND);
    }

    private static void changeNone() {
        Edge e = Edge.of(23, "NONE.");
        e.run().due("change(1)", Run.NONE).after("guest(0, 0)", "set(0, 2, -99)").due("change(40)", Run.NONE).due("status(3)", 2);
        // Quarrels that no change lessens, none that could be lessened, and as many as before.
        e.run().after("guest(1, 0)", "guest(1, 1)", "set(0, 2, -99)", "set(1, 2, -99)").due("change(1)", Run.NONE);
        e.run().after("guest(1, 0)", "guest(1, 1)", "guest(1, 5)").due("change(40)", Run.NONE);
        Run all = e.run().after("guest(1, 0)", "guest(1, 1)", "guest(1, 2)", "set(0, 2, -99)", "set(1, 2, -99)", "set(2, 2, -99)");
        all.due("change(1)", Run.NONE).after("set(2, 2, 0)").due("change(1)", 12);
        // Held at 9999, they are as many as it is.
        all.after("set(0, 4, 9999)", "set(1, 4, 9999)").due("change(1)", Run.NONE).after("set(1, 4, 9998)").due("change(1)", 12);
    }
}
