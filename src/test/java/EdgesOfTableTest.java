/** Promises 1 to 4, each sentence by itself, at its edges. */
public final class EdgesOfTableTest {
    public static void main(String[] args) {
        aNewObject();
        lay();
        layBeyond();
        place();
        placeBeyond();
        now();
        nowBeyond();
        Edge.end(1, 4);
    }

    private static void aNewObject() {
        Edge e = Edge.of(1, "Nobody at the table; THE TAPE is empty, no image is kept.");
        Run r = e.run().due("count(0)", 0).due("of(0, 0)", Run.BEYOND).due("count(1)", 0).due("wipe()", 0).due("dinner()", -1);
        r.due("undo()", Run.NONE).due("tear()", 0).due("status(-1)", 2);
        for (int place = 0; place < 10; place++) {
            r.due("place(" + place + ", 3)", -1);
        }
        // One object knows nothing of another.
        e.run().after("guest(0, 0)", "feed(0, 4)", "image()", "lay(0, 2, 9)", "sheet(0, 8, 1)", "now(9)");
        e.run().due("count(0)", 0).due("count(1)", 0).due("count(3)", 0).due("tear()", 0).due("status(-1)", 0);
    }

    private static void lay() {
        Run r = Edge.of(2, "KNIFE (what 0), FORK (1), SPOON (2) at a PLACE becomes v: what it was.").run();
        for (int place = 0; place < 10; place += 9) {
            for (int what = 0; what < 3; what++) {
                int most = what == 2 ? 9 : 1;
                String at = "lay(" + place + ", " + what + ", ";
                r.due(at + most + ")", 0).due(at + most + ")", most).due("place(" + place + ", " + what + ")", most);
                r.due(at + "0)", most).due("place(" + place + ", " + what + ")", 0).due(at + most + ")", 0);
            }
        }
        r.due("place(1, 0)", 0).due("place(8, 1)", 0).due("place(5, 2)", 0).due("count(3)", 18);
    }

    private static void layBeyond() {
        Edge e = Edge.of(2, "BEYOND.");
        e.places("lay(#, 0, 1)").places("lay(#, 1, 1)").places("lay(#, 2, 9)").bounds("lay(0, #, 1)", 0, 2);
        e.bounds("lay(9, 0, #)", 0, 1).bounds("lay(9, 1, #)", 0, 1).bounds("lay(9, 2, #)", 0, 9);
    }

    private static void place() {
        Run r = Edge.of(3, "Of a PLACE: what 0 KNIFE, 1 FORK, 2 SPOON, 3 who is AT it (-1: nobody).").run();
        r.due("place(0, 3)", -1).due("place(9, 3)", -1).after("guest(0, 9)").due("place(9, 3)", 0).due("place(0, 3)", -1);
        for (int g = 1; g < 8; g++) {
            r.after("guest(0, " + g + ")").due("place(" + g + ", 3)", g);
        }
        r.after("seat(7, 8)").due("place(7, 3)", -1).due("place(8, 3)", 7);
        r.after("lay(9, 0, 1)", "lay(9, 1, 1)", "lay(9, 2, 9)").due("place(9, 0)", 1).due("place(9, 1)", 1).due("place(9, 2)", 9);
    }

    private static void placeBeyond() {
        Edge.of(3, "BEYOND.").places("place(#, 0)").places("place(#, 3)").bounds("place(9, #)", 0, 3);
    }

    private static void now() {
        Edge e = Edge.of(4, "What 0 COURSE, 1 1 if there is PEACE, else 0, 2 who TELLS in this COURSE, "
            + "3 who is SORE (EASE below), as sets, 4 10000 and EASE of all together, 5 TOLD of all together.");
        e.run().due("now(0)", 0).due("now(1)", 1).due("now(2)", 0).due("now(3)", 0).due("now(4)", 10000).due("now(5)", 0);
        Run low = e.run();
        Run high = e.run();
        for (int g = 0; g < 8; g++) {
            low.after("guest(0, " + g + ")", "set(" + g + ", 2, -99)");
            high.after("guest(0, " + g + ")", "set(" + g + ", 2, 99)", "set(" + g + ", 3, 9999)");
        }
        low.due("now(1)", 0).due("now(2)", 0).due("now(3)", 255).due("now(4)", 10000 - 792).due("now(5)", 0);
        high.due("now(1)", 1).due("now(2)", 255).due("now(3)", 0).due("now(4)", 10000 + 792).due("now(5)", 79992);
        Run at = e.run().after("guest(0, 0)", "set(0, 2, -20)").due("now(3)", 0).after("set(0, 2, -21)").due("now(3)", 1);
        at.after("set(0, 2, 19)").due("now(2)", 0).after("set(0, 2, 20)").due("now(2)", 1).after("courses(60)").due("now(0)", 60);
    }

    private static void nowBeyond() {
        Edge.of(4, "BEYOND.").bounds("now(#)", 0, 5);
    }
}
