/** Promises 24 to 26, each sentence by itself, at its edges; what a text may be is asked with the terms. */
public final class EdgesOfTapeTest {
    public static void main(String[] args) {
        feed();
        feedBeyond();
        feedFull();
        wipe();
        dinner();
        dinnerWithAFault();
        Edge.end(24, 26);
    }

    private static void feed() {
        Edge e = Edge.of(24, "THE TAPE gets the n lowest bytes of a number behind it, the highest of these first (n 1 to 4): how many it has.");
        // "lay ", "3 h", "ea" and "rt", the last two with bytes above that are left out.
        Run r = e.run().due("feed(1818327328, 4)", 4).due("feed(3350632, 3)", 7).due("feed(25953, 2)", 9);
        r.due("feed(-142, 1)", 10).due("feed(2147483508, 1)", 11).due("count(1)", 11).due("dinner()", 1).due("place(3, 0)", 1);
        Run order = e.run().due("feed(" + ('l' << 16 | 'a' << 8 | 'y') + ", 3)", 3).due("feed(" + (' ' << 8 | '3') + ", 2)", 5);
        order.due("dinner()", 1).due("feed(" + ('3' << 8 | ' ') + ", 2)", 2).due("dinner()", -1);
        // Of a negative number too, none of whose bytes is negative then.
        e.run().due("feed(-1, 4)", 4).due("dinner()", -1).due("feed(-2147483648, 4)", 4).due("dinner()", -1).due("status(-1)", 0);
        e.run().feed("lay 4 heart").due("feed(" + (0x80 << 24 | ' ' << 16 | ' ' << 8 | ' ') + ", 3)", 14).due("dinner()", 1);
    }

    private static void feedBeyond() {
        Edge.of(24, "BEYOND: n.").bounds("feed(0, #)", 1, 4).bounds("feed(-2147483648, #)", 1, 4).bounds("feed(2147483647, #)", 1, 4);
    }

    private static void feedFull() {
        Edge e = Edge.of(24, "FULL.").refused(Run.FULL, "feed(0, 3)", "feed(538976288, 4)");
        for (int n = 1; n <= 4; n++) {
            Run r = e.run().feed(" ".repeat(120 - n)).due("feed(538976288, " + n + ")", 120).due("feed(32, 1)", Run.FULL);
            r.due("count(1)", 120).due("status(1)", 1);
            Run over = e.run().feed(" ".repeat(121 - n)).due("feed(538976288, " + n + ")", Run.FULL).due("count(1)", 121 - n);
            over.due("wipe()", 121 - n).due("feed(538976288, " + n + ")", n);
        }
        e.run().feed(" ".repeat(120)).due("dinner()", -121).due("feed(32, 4)", 4);
    }

    private static void wipe() {
        Run r = Edge.of(25, "THE TAPE is empty: how many it had.").run().due("wipe()", 0).due("wipe()", 0).due("feed(32, 1)", 1);
        r.due("wipe()", 1).due("count(1)", 0).feed("guest 0;").due("wipe()", 8).feed("guest 9").due("dinner()", 1);
        r.due("count(0)", 1).due("of(0, 1)", 9).feed(" ".repeat(120)).due("wipe()", 120).due("wipe()", 0).due("status(-1)", 0);
    }

    private static void dinner() {
        Edge e = Edge.of(26, "THE TAPE is THE TEXT of a DINNER, whose ITEMS come to what there is, and empty then: how many ITEMS.");
        Run r = e.run().after("guest(0, 0)", "set(0, 2, 9)", "lay(0, 2, 3)", "lay(1, 0, 1)", "courses(1)");
        r.dinner("lay 2", 1).dinner("lady 9;lay 9 cross;change 0 1", 3).due("count(0)", 2).due("of(0, 1)", 9).due("of(1, 1)", 0);
        r.due("of(0, 2)", 111).due("of(1, 2)", 100).due("place(9, 1)", 1).due("place(0, 2)", 3).due("place(1, 0)", 1).due("now(0)", 1);
        e.run().dinner("lay3" + ";lay3".repeat(23), 24);
        // Laid with the tape alone: sheets, image and status stay as they are.
        Run rest = e.laid().due("dinner()", 3).due("count(1)", 0).due("dinner()", -1).due("write(0, 0, 0)", -62).due("status(-1)", 0);
        rest.due("undo()", 4).due("place(7, 3)", -1);
    }

    private static void dinnerWithAFault() {
        Edge e = Edge.of(26, "With a FAULT: -1 less its place (nothing changes but that THE TAPE is empty; no finding).");
        Run r = e.run().after("guest(0, 0)", "guest(1, 9)", "lay(0, 2, 3)");
        r.dinner("", -1).dinner("?", -1).dinner("lay 5 heart;lady 5;change 0 2;lay 0 cross spoon 9;change 2 2", -60).due("count(0)", 2);
        r.due("place(5, 0)", 0).due("place(5, 3)", -1).due("of(0, 1)", 0).due("place(0, 1)", 0).due("place(0, 2)", 3);
        r.feed("lay 3;" + " ".repeat(114)).due("dinner()", -121).due("count(1)", 0).due("status(-1)", 0).due("of(2, 0)", Run.BEYOND);
        Run after = e.run().dinner("guest 1;oh", -9).dinner("guest 1", 1).due("of(0, 1)", 1).dinner("guest 1", -7).dinner("guest 2", 1);
        after.due("count(0)", 2).due("status(-1)", 0);
    }
}
