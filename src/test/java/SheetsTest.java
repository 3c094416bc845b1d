/** Promises 27 to 32: sheets. */
public final class SheetsTest {
    public static void main(String[] args) {
        sheet();
        write();
        copy();
        copyFindings();
        lays();
        book();
        read();
        readOfEveryPair();
        Run.end();
    }

    private static void sheet() {
        Run r = new Run("27, sheet");
        r.due("sheet(0, 8, 40)", 40).due("sheet(1, 16, 1)", 1).due("sheet(2, 64, 3)", 3).due("sheet(3, 64, 0)", 0);
        r.due("write(3, 0, 1)", Run.BEYOND).due("write(2, 2, 7)", 0).due("write(2, 3, 7)", Run.BEYOND);
        r.due("write(0, 39, 7)", 0).due("write(0, 40, 7)", Run.BEYOND);
        r.due("sheet(-1, 8, 1)", Run.BEYOND).due("sheet(4, 8, 1)", Run.BEYOND).due("sheet(0, 1, 1)", Run.BEYOND);
        r.due("sheet(0, 32, 1)", Run.BEYOND).due("sheet(0, -8, 1)", Run.BEYOND).due("sheet(0, 7, -1)", Run.BEYOND);
        r.due("sheet(4, 8, -1)", Run.BEYOND).due("sheet(0, 8, -1)", Run.SIZE).due("sheet(0, 0, -1)", Run.SIZE);
        r.due("sheet(0, 8, 41)", Run.BEYOND).due("sheet(0, 0, 41)", Run.BEYOND).due("sheet(0, 64, -2147483648)", Run.SIZE);
        r.due("status(0)", 12).due("status(6)", 3).due("write(0, 39, 7)", 7);
        r.due("sheet(2, 64, 4)", 4).due("write(2, 2, 9)", 0).due("sheet(2, 0, 40)", 0).due("write(2, 0, 1)", Run.MISSING);
        r.due("sheet(2, 0, 0)", 0).due("sheet(2, 16, 40)", 40).due("write(2, 2, 1)", 0).due("write(2, 39, 1)", 0);
    }

    private static void write() {
        Run r = new Run("28, write");
        r.after("sheet(0, 8, 2)", "sheet(1, 16, 2)", "sheet(2, 64, 2)");
        r.due("write(0, 0, 127)", 0).due("write(0, 0, 128)", 127).due("write(0, 0, 255)", -128).due("write(0, 0, 256)", -1);
        r.due("write(0, 0, -129)", 0).due("write(0, 0, 0)", 127).due("write(0, 1, 4294967299)", 0).due("write(0, 1, 0)", 3);
        r.due("write(1, 1, 32767)", 0).due("write(1, 1, 32768)", 32767).due("write(1, 1, 65535)", -32768);
        r.due("write(1, 1, 65536)", -1).due("write(1, 1, 300)", 0).due("write(1, 1, 0)", 300).due("write(1, 0, 0)", 0);
        r.due("write(2, 0, 9223372036854775807)", 0).due("write(2, 0, -9223372036854775808)", Long.MAX_VALUE);
        r.due("write(2, 0, 65536)", Long.MIN_VALUE).due("write(2, 0, -1000000001)", 65536).due("write(2, 0, 0)", -1000000001);
        r.due("status(-1)", 0).due("write(-1, 0, 0)", Run.BEYOND).due("write(4, 0, 0)", Run.BEYOND);
        r.due("write(3, 0, 0)", Run.MISSING).due("write(3, -1, 0)", Run.MISSING).due("write(3, 40, 0)", Run.MISSING);
        r.due("write(0, -1, 5)", Run.BEYOND).due("write(0, 2, 5)", Run.BEYOND).due("status(0)", 4).due("status(5)", 3);
    }

    private static Run filled(String name) {
        Run r = new Run(name);
        r.after("sheet(0, 8, 5)", "sheet(1, 8, 3)", "sheet(2, 16, 5)");
        for (int i = 0; i < 5; i++) {
            r.after("write(0, " + i + ", " + (i + 1) + ")", "write(1, " + i + ", " + (i + 11) + ")");
        }
        return r;
    }

    /** Reads a sheet by writing zeros, so it is empty then. */
    private static void holds(Run r, int s, int... want) {
        for (int i = 0; i < want.length; i++) {
            r.due("write(" + s + ", " + i + ", 0)", want[i]);
        }
    }

    private static void copy() {
        holds(filled("29, copy").due("copy(0, 1, 1, 0, 3)", 3), 1, 2, 3, 4);
        Run r = filled("29, copy, some").due("copy(1, 2, 0, 4, 1)", 1).due("copy(1, 0, 0, 0, 0)", 0);
        holds(r, 0, 1, 2, 3, 4, 13);
        holds(r, 1, 11, 12, 13);
        holds(filled("29, copy, forth on itself").due("copy(0, 0, 0, 1, 4)", 4), 0, 1, 1, 2, 3, 4);
        holds(filled("29, copy, back on itself").due("copy(0, 1, 0, 0, 4)", 4), 0, 2, 3, 4, 5, 5);
        holds(filled("29, copy, nothing at the end").due("copy(0, 5, 1, 3, 0)", 0), 1, 11, 12, 13);
    }

    private static void copyFindings() {
        Run r = filled("29, copy, findings");
        r.due("copy(-1, 0, 0, 0, 0)", Run.BEYOND).due("copy(0, 0, 4, 0, 0)", Run.BEYOND).due("copy(3, 0, 4, 0, 0)", Run.BEYOND);
        r.due("copy(3, 0, 0, 0, 0)", Run.MISSING).due("copy(0, 0, 3, 0, 0)", Run.MISSING).due("copy(2, -1, 3, 0, 0)", Run.MISSING);
        r.due("copy(0, 0, 2, 0, 0)", Run.KIND).due("copy(2, -1, 0, 0, 99)", Run.KIND);
        for (String call : new String[] {
            "copy(0, -1, 1, 0, 1)", "copy(0, 0, 1, -1, 1)", "copy(0, 0, 1, 0, -1)", "copy(0, 0, 1, 0, 4)", "copy(0, 4, 1, 0, 2)",
            "copy(0, 0, 1, 2, 2)", "copy(0, 6, 1, 0, 0)", "copy(0, 0, 1, 4, 0)", "copy(0, 2147483647, 1, 0, 1)",
            "copy(0, 1, 1, 0, 2147483647)", "copy(0, 0, 1, 2147483647, 2147483647)", "copy(0, 1, 1, 1, -2147483648)"}) {
            r.due(call, Run.BEYOND);
        }
        r.due("status(0)", 3 + 12 + 2).due("status(5)", 3).due("status(2)", 2);
        holds(r, 0, 1, 2, 3, 4, 5);
        holds(r, 1, 11, 12, 13);
    }

    private static void lays() {
        Run r = new Run("30, lays");
        r.after("guest(0, 0)", "guest(0, 2)", "guest(0, 4)", "set(1, 2, 8)", "sheet(0, 16, 5)");
        r.after("write(0, 0, -99)", "write(0, 1, 100)", "write(0, 2, 99)", "write(0, 3, 5)");
        r.due("lays(0)", 2).due("of(0, 2)", 1).due("of(1, 2)", 108).due("of(2, 2)", 199).due("count(0)", 3);
        r.after("write(0, 0, -100)").due("lays(0)", 1).due("of(0, 2)", 1);
        r.after("sheet(1, 64, 2)", "write(1, 0, 4294967296)", "write(1, 1, -4294967296)").due("lays(1)", 0).due("of(0, 2)", 1);
        r.after("sheet(1, 8, 2)").due("lays(1)", 2).due("of(0, 2)", 100).due("of(1, 2)", 100).due("of(2, 2)", 199);
        r.after("sheet(1, 8, 0)").due("lays(1)", 0).due("lays(-1)", Run.BEYOND).due("lays(4)", Run.BEYOND);
        r.due("lays(3)", Run.MISSING).due("status(0)", 2).due("status(5)", 1);
        new Run("30, lays with nobody").due("sheet(3, 8, 40)", 40).due("lays(3)", 0);
    }

    private static void book() {
        Run r = new Run("31, book");
        r.after("guest(0, 0)", "guest(1, 2)", "lay(2, 2, 5)", "set(0, 2, 94)", "sheet(0, 8, 5)", "sheet(1, 64, 3)");
        r.due("book(0, 0)", 5).due("book(1, 1)", 3).due("now(0)", 0).due("of(0, 2)", 194);
        holds(r, 0, 94, 96, 98, 99, 99);
        holds(r, 1, 0, -3, -6);
        r.after("sheet(2, 16, 0)").due("book(2, 0)", 0).after("sheet(2, 8, 40)").due("book(2, 1)", 40);
        r.due("write(2, 39, 0)", -99).due("write(2, 33, 0)", -99).due("write(2, 32, 0)", -96);
        r.due("book(-1, 0)", Run.BEYOND).due("book(4, 0)", Run.BEYOND).due("book(3, 0)", Run.MISSING);
        r.due("book(3, 9)", Run.MISSING).due("book(0, 2)", Run.BEYOND).due("book(0, -1)", Run.BEYOND);
        r.due("status(0)", 4).due("status(5)", 2);
    }

    private static void read() {
        Run r = new Run("32, read");
        r.after("guest(1, 2)", "lay(2, 2, 5)", "sheet(0, 64, 0)", "sheet(1, 8, 1)", "sheet(2, 8, 3)");
        r.due("read(0, 0)", 60).due("read(1, 0)", 60).after("set(0, 2, 1)").due("read(1, 0)", 0).after("set(0, 2, 0)");
        // Alone and nothing else amiss: bishop and cardinal go by the spoon, guest, lady, bride and both at 0 hairs feel 2.
        r.after("book(2, 0)").due("read(2, 0)", 2).due("place(2, 2)", 5).due("of(0, 0)", 1);
        r.after("turn(0, 0)", "book(2, 0)").due("read(2, 0)", 32).after("turn(0, 3)", "book(2, 0)").due("read(2, 0)", 11);
        r.after("lay(2, 2, 0)", "book(2, 0)").due("read(2, 0)", 3).after("write(2, 2, 5)").due("read(2, 0)", 0);
        r.due("now(0)", 0).due("read(-1, 0)", Run.BEYOND).due("read(4, 0)", Run.BEYOND).due("read(3, 0)", Run.MISSING);
        r.due("read(3, -1)", Run.MISSING).due("read(2, 1)", Run.BEYOND).due("read(2, -1)", Run.BEYOND);
        r.due("status(0)", 4).due("status(5)", 2);
        Run wide = new Run("32, read, wide numbers");
        wide.after("guest(0, 0)", "sheet(0, 64, 1)", "write(0, 0, 4294967296)").due("read(0, 0)", 0);
    }

    private static void readOfEveryPair() {
        Run r = new Run("32, read, of every pair");
        r.after("guest(0, 5)", "guest(0, 4)", "guest(0, 6)", "lay(4, 0, 1)", "sheet(0, 8, 2)");
        // With two neighbours, one of them with its blade in: how many pairs come to each ease of the second course.
        int[] pairs = new int[199];
        pairs[99 + 2 - 1] += 10;
        for (int s = 0; s < 10; s++) {
            pairs[99 + 2 - s]++;
            pairs[99 + 2 * (2 - s)]++;
            pairs[99 + (s == 0 ? 1 : -4)]++;
        }
        pairs[99 + 4 + 1] += 10;
        pairs[99 + 4 + 2] += 10;
        for (int e = -99; e <= 99; e++) {
            r.after("write(0, 1, " + e + ")").due("read(0, 0)", pairs[99 + e]);
        }
    }
}
