/** Promises 27 to 32, each sentence by itself, at its edges. */
public final class EdgesOfSheetsTest {
    private static final int[] BITS = {8, 16, 64};

    public static void main(String[] args) {
        sheet();
        sheetBeyond();
        sheetSize();
        sheetTooLong();
        write();
        writeBeyond();
        writeMissing();
        writeNoSuchNumber();
        copy();
        copyAsTheyWere();
        copyBeyond();
        copyMissing();
        copyKind();
        copyNotSoMany();
        lays();
        laysLeftOut();
        laysBeyond();
        laysMissing();
        book();
        bookBeyond();
        bookMissing();
        bookGuest();
        read();
        readBeyond();
        readMissing();
        readGuest();
        Edge.end(27, 32);
    }

    private static void sheet() {
        Edge e = Edge.of(27, "A sheet has n numbers, all 0, of 8, 16 or 64 bits; bits 0: it is MISSING: n (0 if it is MISSING).");
        for (int s = 0; s < 4; s++) {
            for (int bits : BITS) {
                Run r = e.run().due("sheet(" + s + ", " + bits + ", 0)", 0).due("write(" + s + ", 0, 1)", Run.BEYOND);
                r.due("sheet(" + s + ", " + bits + ", 40)", 40);
                for (int i = 0; i < 40; i++) {
                    r.due("write(" + s + ", " + i + ", 7)", 0);
                }
                r.due("sheet(" + s + ", " + bits + ", 1)", 1).due("write(" + s + ", 0, 7)", 0).due("write(" + s + ", 1, 7)", Run.BEYOND);
                r.due("sheet(" + s + ", " + bits + ", 40)", 40).due("write(" + s + ", 0, 7)", 0).due("write(" + s + ", 39, 7)", 0);
                r.due("sheet(" + s + ", 0, 40)", 0).due("write(" + s + ", 0, 7)", Run.MISSING).due("sheet(" + s + ", 0, 0)", 0);
            }
        }
    }

    private static void sheetBeyond() {
        Edge e = Edge.of(27, "BEYOND: no such sheet, other bits.").bounds("sheet(#, 8, 1)", 0, 3).bounds("sheet(#, 0, 0)", 0, 3);
        for (int bits : new int[] {-64, -8, -1, 1, 7, 9, 15, 17, 32, 63, 65, 128, Integer.MIN_VALUE, Integer.MAX_VALUE}) {
            e.beyond("sheet(0, " + bits + ", 1)", "sheet(0, " + bits + ", -1)", "sheet(0, " + bits + ", 41)");
        }
        e.beyond("sheet(4, 8, -1)", "sheet(-1, 0, -1)");
    }

    private static void sheetSize() {
        Edge e = Edge.of(27, "SIZE: n is below 0 (also with bits 0).");
        for (int bits : new int[] {0, 8, 16, 64}) {
            e.refused(Run.SIZE, "sheet(0, " + bits + ", -1)", "sheet(0, " + bits + ", -2147483648)");
        }
        e.refused(Run.SIZE, "sheet(3, 0, -1)", "sheet(3, 8, -1)");
    }

    private static void sheetTooLong() {
        Edge e = Edge.of(27, "BEYOND: n is above 40 (also with bits 0).");
        for (int bits : new int[] {0, 8, 16, 64}) {
            e.beyond("sheet(0, " + bits + ", 41)", "sheet(0, " + bits + ", 2147483647)");
            e.run().due("sheet(0, " + bits + ", 40)", bits == 0 ? 0 : 40);
        }
        e.beyond("sheet(3, 0, 41)", "sheet(3, 64, 41)");
    }

    /** Writes v and asks what it has become. */
    private static void becomes(Run r, int s, long v, long want) {
        r.due("write(" + s + ", 0, " + v + ")", 0).due("write(" + s + ", 0, 0)", want);
    }

    private static void write() {
        Run r = Edge.of(28, "Number i of a sheet becomes v (its lowest bits): what it was.").run();
        r.after("sheet(0, 8, 40)", "sheet(1, 16, 40)", "sheet(2, 64, 40)").due("write(0, 39, 5)", 0).due("write(0, 39, 0)", 5);
        for (long v : new long[] {0, 1, -1, 127, -128}) {
            becomes(r, 0, v, v);
            becomes(r, 0, v + 256, v);
            becomes(r, 0, v + (1L << 32), v);
        }
        becomes(r, 0, 128, -128);
        becomes(r, 0, -129, 127);
        for (long v : new long[] {0, -1, 128, 255, 256, 32767, -32768}) {
            becomes(r, 1, v, v);
            becomes(r, 1, v + 65536, v);
            becomes(r, 1, v + (1L << 63), v);
        }
        becomes(r, 1, 32768, -32768);
        becomes(r, 1, -32769, 32767);
        for (long v : new long[] {1, 65536, 1L << 31, 1L << 32, Long.MAX_VALUE, Long.MIN_VALUE, -1000000007}) {
            becomes(r, 2, v, v);
        }
        r.due("write(0, 1, 0)", 0).due("status(-1)", 0);
    }

    private static void writeBeyond() {
        Edge.of(28, "BEYOND: no such sheet.").bounds("write(#, 0, 1)", 0, 3).beyond("write(4, 40, 1)", "write(-1, -1, 1)");
    }

    private static void writeMissing() {
        Edge e = Edge.of(28, "MISSING.").refused(Run.MISSING, "write(3, 0, 1)", "write(3, 40, 1)", "write(3, -1, 1)");
        Run r = e.run().due("write(0, 0, 1)", Run.MISSING).after("sheet(0, 8, 1)").due("write(0, 0, 1)", 0).after("sheet(0, 0, 1)");
        r.due("write(0, 0, 1)", Run.MISSING).after("sheet(0, 8, 1)").due("write(0, 0, 1)", 0).due("status(5)", 2);
    }

    private static void writeNoSuchNumber() {
        Edge e = Edge.of(28, "BEYOND: no such number.").bounds("write(0, #, 1)", 0, 2).bounds("write(2, #, 1)", 0, 1);
        e.run().after("sheet(0, 8, 0)").due("write(0, 0, 1)", Run.BEYOND);
        e.run().after("sheet(0, 8, 40)").due("write(0, 39, 1)", 0).due("write(0, 40, 1)", Run.BEYOND);
        // Longer before, but not now.
        e.run().after("sheet(0, 8, 40)", "sheet(0, 8, 2)").due("write(0, 2, 1)", Run.BEYOND).due("write(0, 1, 1)", 0);
    }

    private static Run filled(Edge e) {
        Run r = e.run().after("sheet(0, 16, 5)", "sheet(1, 16, 3)");
        for (int i = 0; i < 5; i++) {
            r.after("write(0, " + i + ", " + (300 + i) + ")");
        }
        return r.after("write(1, 0, 11)", "write(1, 1, 12)", "write(1, 2, 13)");
    }

    /** Reads a sheet by writing zeros, so it is empty then. */
    private static void holds(Run r, int s, int... want) {
        for (int i = 0; i < want.length; i++) {
            r.due("write(" + s + ", " + i + ", 0)", want[i]);
        }
    }

    private static void copy() {
        Edge e = Edge.of(29, "n numbers of a sheet from one on come to another one from one on");
        holds(filled(e).due("copy(0, 2, 1, 0, 3)", 3), 1, 302, 303, 304);
        holds(filled(e).due("copy(1, 0, 0, 2, 3)", 3), 0, 300, 301, 11, 12, 13);
        holds(filled(e).due("copy(0, 5, 1, 3, 0)", 0), 1, 11, 12, 13);
        holds(filled(e).due("copy(0, 0, 1, 2, 1)", 1), 1, 11, 12, 300);
        Run whole = e.run().after("sheet(2, 64, 40)", "sheet(3, 64, 40)", "write(2, 39, 7)", "write(2, 0, 8)");
        whole.due("copy(2, 0, 3, 0, 40)", 40).due("write(3, 39, 0)", 7).due("write(3, 0, 0)", 8).due("write(2, 39, 0)", 7);
        e.run().after("sheet(2, 8, 0)").due("copy(2, 0, 2, 0, 0)", 0);
    }

    private static void copyAsTheyWere() {
        Edge e = Edge.of(29, "(as they all were): n.");
        holds(filled(e).due("copy(0, 0, 0, 1, 4)", 4), 0, 300, 300, 301, 302, 303);
        holds(filled(e).due("copy(0, 1, 0, 0, 4)", 4), 0, 301, 302, 303, 304, 304);
        holds(filled(e).due("copy(0, 0, 0, 0, 5)", 5), 0, 300, 301, 302, 303, 304);
        holds(filled(e).due("copy(0, 0, 0, 2, 3)", 3), 0, 300, 301, 300, 301, 302);
    }

    private static void copyBeyond() {
        Edge e = Edge.of(29, "BEYOND: no such sheet (either).").bounds("copy(#, 0, 0, 0, 0)", 0, 3).bounds("copy(0, 0, #, 0, 0)", 0, 3);
        e.beyond("copy(4, 0, 3, 0, 0)", "copy(3, 0, 4, 0, 0)", "copy(-1, -1, -1, -1, -1)");
    }

    private static void copyMissing() {
        Edge e = Edge.of(29, "MISSING: one is.");
        e.refused(Run.MISSING, "copy(3, 0, 0, 0, 0)", "copy(0, 0, 3, 0, 0)", "copy(3, 0, 3, 0, 0)", "copy(3, -1, 2, 99, -1)");
    }

    private static void copyKind() {
        Edge e = Edge.of(29, "KIND: they are not of as many bits.");
        e.refused(Run.KIND, "copy(0, 0, 2, 0, 1)", "copy(2, 0, 1, 0, 0)", "copy(2, -1, 0, 99, -1)");
        for (int bits : BITS) {
            for (int other : BITS) {
                Run r = e.run().after("sheet(0, " + bits + ", 1)", "sheet(1, " + other + ", 1)");
                r.due("copy(0, 0, 1, 0, 1)", bits == other ? 1 : Run.KIND);
            }
        }
    }

    private static void copyNotSoMany() {
        Edge e = Edge.of(29, "BEYOND: one has not so many, or from, to or n is below 0.");
        // On the fixture sheet 0 has 3 numbers and sheet 1 has 2.
        e.bounds("copy(0, #, 1, 0, 2)", 0, 1).bounds("copy(0, #, 1, 0, 0)", 0, 3).bounds("copy(0, 0, 1, #, 1)", 0, 1);
        e.bounds("copy(0, 0, 1, #, 0)", 0, 2).bounds("copy(0, 0, 1, 0, #)", 0, 2).bounds("copy(0, 2, 1, 0, #)", 0, 1);
        e.bounds("copy(1, 0, 0, 1, #)", 0, 2).bounds("copy(1, 0, 0, 2, #)", 0, 1).bounds("copy(0, 0, 0, 0, #)", 0, 3);
        e.beyond("copy(0, 2147483647, 1, 0, 2147483647)", "copy(0, 0, 1, 2147483647, 2147483647)", "copy(0, 1, 1, 1, 2147483647)");
    }

    private static void lays() {
        Edge e = Edge.of(30, "Numbers of a sheet become EASE of GUESTS 0, 1, ..");
        Run r = e.run().after("guest(0, 0)", "guest(0, 5)", "sheet(0, 8, 2)", "write(0, 0, -99)", "write(0, 1, 99)");
        r.due("lays(0)", 2).due("of(0, 2)", 1).due("of(1, 2)", 199).due("now(3)", 1).due("write(0, 0, 0)", -99);
        r.after("sheet(1, 64, 1)").due("lays(1)", 1).due("of(0, 2)", 100).due("of(1, 2)", 199).after("sheet(1, 16, 0)").due("lays(1)", 0);
    }

    private static void laysLeftOut() {
        Edge e = Edge.of(30, "(those that aren't -99 to 99, or stand for none, are left out): how many came.");
        e.run().after("sheet(0, 8, 40)").due("lays(0)", 0).due("count(0)", 0);
        Run full = e.run().after("sheet(0, 8, 40)");
        for (int g = 0; g < 8; g++) {
            full.after("guest(0, " + g + ")", "write(0, " + g + ", " + (g - 4) + ")");
        }
        full.due("lays(0)", 8).due("of(7, 2)", 103).due("of(0, 2)", 96);
        Run r = e.run().after("guest(0, 0)", "guest(0, 5)", "set(0, 2, 7)", "sheet(2, 64, 3)", "write(2, 1, 9)", "write(2, 2, 9)");
        for (long v : new long[] {100, -100, 256, 65536, 1L << 32, -(1L << 32), (1L << 32) + 5, Long.MAX_VALUE, Long.MIN_VALUE}) {
            r.after("write(2, 0, " + v + ")", "set(1, 2, 0)").due("lays(2)", 1).due("of(0, 2)", 107).due("of(1, 2)", 109);
        }
        r.after("write(2, 0, 99)").due("lays(2)", 2).due("of(0, 2)", 199).after("write(2, 0, -99)").due("lays(2)", 2).due("of(0, 2)", 1);
    }

    private static void laysBeyond() {
        Edge.of(30, "BEYOND: no such sheet.").bounds("lays(#)", 0, 3);
    }

    private static void laysMissing() {
        Edge e = Edge.of(30, "MISSING.").refused(Run.MISSING, "lays(3)");
        e.run().due("lays(0)", Run.MISSING).after("sheet(0, 8, 0)").due("lays(0)", 0).after("sheet(0, 0, 0)").due("lays(0)", Run.MISSING);
    }

    private static void book() {
        Edge e = Edge.of(31, "A book: EASE of one 0, 1, 2, .. COURSES AHEAD comes to a sheet, as many as it has numbers: how many.");
        for (int bits : BITS) {
            Run r = e.run().after("guest(0, 0)", "guest(1, 5)", "lay(5, 2, 5)", "set(0, 2, 96)", "set(1, 2, -95)");
            r.due("sheet(0, " + bits + ", 0)", 0).due("book(0, 0)", 0).due("sheet(0, " + bits + ", 1)", 1).due("book(0, 0)", 1);
            holds(r, 0, 96);
            r.due("sheet(0, " + bits + ", 40)", 40).due("book(0, 0)", 40);
            holds(r, 0, 96, 98, 99, 99);
            r.due("write(0, 39, 0)", 99).due("book(0, 1)", 40);
            holds(r, 0, -95, -98, -99, -99);
            r.due("write(0, 39, 0)", -99).due("now(0)", 0).due("of(0, 2)", 196);
        }
        e.run().after("guest(3, 0)", "sheet(0, 8, 40)").due("book(0, 0)", 40).due("write(0, 39, 0)", 39).due("write(0, 0, 0)", 0);
    }

    private static void bookBeyond() {
        Edge.of(31, "BEYOND: no such sheet.").bounds("book(#, 0)", 0, 3).beyond("book(4, 4)");
    }

    private static void bookMissing() {
        Edge.of(31, "MISSING.").refused(Run.MISSING, "book(3, 0)", "book(3, 4)", "book(3, -1)");
    }

    private static void bookGuest() {
        Edge e = Edge.of(31, "BEYOND: guest.").guests("book(0, #)");
        e.run().after("sheet(0, 8, 0)").due("book(0, 0)", Run.BEYOND);
    }

    private static void read() {
        Edge e = Edge.of(32, "THE READER: numbers of a sheet are EASE of one 0, 1, 2, .. COURSES AHEAD: how many pairs of a KIND of it "
            + "and a SPOON (0 to 9) at its PLACE make it just so.");
        Run r = e.run().after("guest(4, 9)", "lay(9, 2, 9)", "sheet(0, 8, 0)", "sheet(1, 8, 1)", "sheet(2, 64, 40)");
        r.due("read(0, 0)", 60).due("read(1, 0)", 60).due("read(2, 0)", 1 + 1 + 9).after("write(1, 0, 1)").due("read(1, 0)", 0);
        r.after("book(2, 0)").due("read(2, 0)", 2).due("place(9, 2)", 9).due("of(0, 0)", 4).after("write(2, 39, 0)").due("read(2, 0)", 0);
        r.after("book(2, 0)", "write(2, 0, 4294967296)").due("read(2, 0)", 0).after("write(2, 0, 0)").due("read(2, 0)", 2);
        // The spoon that is laid is one of the ten, and the kind that one is one of the six.
        r.after("lay(9, 2, 0)", "turn(0, 0)").due("read(2, 0)", 2);
        // All held at -99: every pair that feels no more than 0 does.
        Run held = e.run().after("guest(0, 5)", "lay(5, 0, 1)", "set(0, 2, -99)", "sheet(0, 8, 40)", "book(0, 0)").due("read(0, 0)", 60);
        held.after("lay(5, 0, 0)").due("read(0, 0)", 8 + 8 + 9);
    }

    private static void readBeyond() {
        Edge.of(32, "BEYOND: no such sheet.").bounds("read(#, 0)", 0, 3).beyond("read(4, 4)");
    }

    private static void readMissing() {
        Edge.of(32, "MISSING.").refused(Run.MISSING, "read(3, 0)", "read(3, 4)", "read(3, -1)");
    }

    private static void readGuest() {
        Edge e = Edge.of(32, "BEYOND: guest.").guests("read(0, #)");
        e.run().after("sheet(0, 8, 0)").due("read(0, 0)", Run.BEYOND);
    }
}
