/** Promises 33 to 37, each sentence by itself, at its edges. */
public final class EdgesOfImagesTest {
    public static void main(String[] args) {
        image();
        undo();
        undoNone();
        tear();
        count();
        countBeyond();
        status();
        statusBeyond();
        Edge.end(33, 37);
    }

    private static void image() {
        Edge e = Edge.of(33, "All that section 1 tells (THE TAPE not) is kept: 1.");
        Fixture.changesNothing("image()");
        e.run().due("image()", 1).after("guest(0, 0)", "lay(9, 2, 9)", "courses(1)").feed("lay").due("undo()", 0).due("count(1)", 3);
        Run full = e.run();
        for (int g = 0; g < 8; g++) {
            full.after("guest(" + g % 6 + ", " + g + ")", "set(" + g + ", 2, " + (g - 99) + ")", "set(" + g + ", 3, " + g + ")");
            full.after("set(" + g + ", 4, " + (9999 - g) + ")", "lay(" + g + ", 2, " + g + ")");
        }
        full.after("lay(9, 0, 1)", "lay(8, 1, 1)", "courses(1)");
        long[] before = seen(full);
        full.due("image()", 1).feed("lay 3").after("courses(60)", "swap(0, 7)", "seat(1, 9)", "turn(5, 0)", "lay(9, 0, 0)", "lay(8, 1, 0)");
        full.after("lay(7, 2, 0)", "sheet(0, 8, 1)", "write(0, 0, 5)").due("undo()", 8);
        full.same("all as it was", java.util.Arrays.equals(seen(full), before) ? 1 : 0, 1).due("count(1)", 5).due("write(0, 0, 0)", 5);
    }

    private static long[] seen(Run r) {
        long[] all = new long[1 + 40 + 40];
        all[0] = r.ask("now(0)");
        for (int i = 0; i < 40; i++) {
            all[1 + i] = r.ask("place(" + i / 4 + ", " + i % 4 + ")");
            all[41 + i] = r.ask("of(" + i / 5 + ", " + i % 5 + ")");
        }
        return all;
    }

    private static void undo() {
        Edge e = Edge.of(34, "It becomes what was kept latest (which stays): how many GUESTS.");
        Run r = e.run().due("image()", 1).due("undo()", 0).after("guest(0, 0)").due("image()", 1).after("guest(0, 9)").due("undo()", 1);
        r.due("undo()", 1).due("place(9, 3)", -1).after("seat(0, 5)", "set(0, 2, 50)").due("undo()", 1).due("of(0, 1)", 0);
        // What is changed after undo() doesn't change what is kept.
        r.due("of(0, 2)", 100).after("lay(0, 2, 9)", "turn(0, 5)", "courses(9)").due("undo()", 1).due("place(0, 2)", 0).due("of(0, 0)", 0);
        r.due("now(0)", 0).due("guest(0, 9)", 1).due("undo()", 1).due("guest(0, 9)", 1);
        Run full = e.run();
        for (int g = 0; g < 8; g++) {
            full.after("guest(0, " + g + ")");
        }
        full.due("image()", 1).due("undo()", 8).due("guest(0, 9)", Run.FULL);
        e.laid().due("undo()", 4).due("count(1)", 118).due("status(-1)", 0);
    }

    private static void undoNone() {
        Edge e = Edge.of(34, "NONE: nothing is kept.");
        Run r = e.run().after("guest(0, 0)", "set(0, 2, 5)").due("undo()", Run.NONE).due("count(0)", 1).due("of(0, 2)", 105);
        r.after("image()", "tear()").due("undo()", Run.NONE).due("of(0, 2)", 105).due("status(3)", 2).due("status(-1)", 2);
    }

    private static void tear() {
        Edge e = Edge.of(35, "Nothing is kept: 1 if something was, else 0.");
        Run r = e.run().due("tear()", 0).due("image()", 1).due("tear()", 1).due("tear()", 0).due("undo()", Run.NONE);
        // Of two images, none is left.
        r.due("image()", 1).due("image()", 1).due("tear()", 1).due("tear()", 0).due("undo()", Run.NONE);
        r.due("image()", 1).due("undo()", 0).due("tear()", 1).due("status(-1)", 2);
        e.laid().due("tear()", 1).due("count(0)", 4).due("of(3, 1)", 4).due("count(1)", 118).due("tear()", 0);
    }

    private static void count() {
        Edge e = Edge.of(36, "0 GUESTS, 1 bytes of THE TAPE, 2 QUARRELS of all together, 3 SPOONS of all PLACES together.");
        e.run().due("count(0)", 0).due("count(1)", 0).due("count(2)", 0).due("count(3)", 0);
        Run r = e.run().feed(" ".repeat(120));
        for (int p = 0; p < 10; p++) {
            r.after("guest(0, " + p + ")", "set(" + p + ", 4, 9999)", "lay(" + p + ", 2, 9)");
        }
        r.due("count(0)", 8).due("count(1)", 120).due("count(2)", 79992).due("count(3)", 90).after("lay(9, 2, 0)").due("count(3)", 81);
    }

    private static void countBeyond() {
        Edge.of(36, "BEYOND: another what.").bounds("count(#)", 0, 3);
    }

    private static void status() {
        Edge e = Edge.of(37, "How many acts answered a finding ever (undo() takes none back): which -1: all, 0 to 6: BEYOND to SIZE.");
        Run r = e.run();
        for (int which = -1; which <= 6; which++) {
            r.due("status(" + which + ")", 0);
        }
        r.after("image()", "guest(0, 0)", "guest(0, 0)", "as(0, 1)", "lays(0)", "sheet(0, 0, -1)", "tear()", "undo()", "image()");
        r.feed(" ".repeat(120)).after("feed(0, 1)", "now(6)").due("undo()", 1);
        for (int which = 0; which <= 6; which++) {
            r.due("status(" + which + ")", 1);
        }
        r.due("status(-1)", 7).after("dinner()", "tells(0)", "as(0, 0)").due("status(-1)", 7);
        for (int i = 1; i <= 300; i++) {
            r.after(i % 2 == 0 ? "tear()" : "undo()");
        }
        r.due("status(3)", 1 + 149).due("status(-1)", 7 + 149);
    }

    private static void statusBeyond() {
        Edge e = Edge.of(37, "BEYOND (counted from then on): another one.").bounds("status(#)", -1, 6);
        Run r = e.run().due("status(7)", Run.BEYOND).due("status(0)", 1).due("status(-2)", Run.BEYOND).due("status(0)", 2);
        r.due("status(-1)", 2).due("status(2147483647)", Run.BEYOND).due("status(-1)", 3).due("status(6)", 0);
    }
}
