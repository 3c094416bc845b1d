/** Promises 33 to 37: images, and what is counted. */
public final class ImagesTest {
    public static void main(String[] args) {
        imageAndUndo();
        undoIsOfTheLatest();
        undoLeavesTheRest();
        newGuestsAfterUndo();
        tear();
        count();
        status();
        Run.end();
    }

    private static void imageAndUndo() {
        Run r = new Run("33 and 34, image and undo");
        r.after("guest(2, 0)", "guest(3, 4)", "lay(0, 0, 1)", "lay(4, 1, 1)", "lay(7, 2, 6)", "set(0, 2, -30)");
        r.after("set(1, 2, -40)", "set(0, 3, 5)", "set(1, 4, 6)", "courses(3)").due("image()", 1);
        r.after("seat(0, 5)", "swap(0, 1)", "turn(0, 5)", "guest(1, 9)", "lay(0, 0, 0)", "lay(4, 1, 0)", "lay(7, 2, 1)");
        r.after("lay(2, 0, 1)", "set(0, 3, 77)", "set(1, 4, 88)", "courses(20)").due("count(0)", 3).due("undo()", 2);
        r.due("now(0)", 3).due("count(0)", 2).due("of(0, 0)", 2).due("of(1, 0)", 3).due("of(0, 1)", 0).due("of(1, 1)", 4);
        r.due("of(0, 2)", 61).due("of(1, 2)", 60).due("of(0, 3)", 5).due("of(1, 3)", 0).due("of(0, 4)", 0).due("of(1, 4)", 6);
        r.due("place(0, 0)", 1).due("place(4, 1)", 1).due("place(7, 2)", 6).due("place(2, 0)", 0);
        r.due("place(0, 3)", 0).due("place(4, 3)", 1).due("place(5, 3)", -1).due("place(9, 3)", -1);
        r.after("courses(1)").due("undo()", 2).due("now(0)", 3).due("of(0, 2)", 61).due("status(-1)", 0);
    }

    private static void undoIsOfTheLatest() {
        Run r = new Run("34, undo is of the latest");
        r.due("undo()", Run.NONE).due("image()", 1).after("guest(0, 1)").due("image()", 1).after("guest(0, 2)");
        r.due("undo()", 1).due("count(0)", 1).due("undo()", 1).after("seat(0, 8)").due("undo()", 1).due("of(0, 1)", 1);
        r.due("status(3)", 1);
    }

    private static void undoLeavesTheRest() {
        Run r = new Run("34, undo leaves tape, sheets and status");
        r.feed("lay").after("sheet(0, 8, 2)", "write(0, 0, 5)").due("image()", 1).due("of(0, 0)", Run.BEYOND);
        r.feed(" 3 heart").after("write(0, 0, 6)", "sheet(1, 8, 1)").due("undo()", 0).due("count(1)", 11);
        r.due("write(0, 0, 0)", 6).due("write(1, 0, 0)", 0).due("status(0)", 1).due("dinner()", 1).due("place(3, 0)", 1);
        r.due("undo()", 0).due("place(3, 0)", 0).due("count(1)", 0);
    }

    private static void newGuestsAfterUndo() {
        Run r = new Run("34, new guests after undo");
        r.after("image()", "guest(5, 1)", "set(0, 2, 50)", "set(0, 3, 60)", "set(0, 4, 70)").due("undo()", 0);
        r.due("of(0, 2)", Run.BEYOND).due("now(4)", 10000).due("count(2)", 0).due("guest(1, 3)", 0);
        r.due("of(0, 0)", 1).due("of(0, 2)", 100).due("of(0, 3)", 0).due("of(0, 4)", 0).due("undo()", 0);
        r.dinner("envoy 2", 1).due("of(0, 2)", 100).due("of(0, 1)", 2).due("place(3, 3)", -1);
    }

    private static void tear() {
        Run r = new Run("35, tear");
        r.due("tear()", 0).due("image()", 1).due("image()", 1).after("guest(0, 0)").due("tear()", 1).due("tear()", 0);
        r.due("undo()", Run.NONE).due("count(0)", 1).due("status(3)", 1).due("status(-1)", 1).due("image()", 1);
        r.due("undo()", 1).due("tear()", 1);
    }

    private static void count() {
        Run r = new Run("36, count");
        r.after("guest(0, 0)", "guest(0, 1)", "guest(0, 9)", "set(0, 4, 9999)", "set(2, 4, 9999)").feed("guest 1");
        r.due("count(0)", 3).due("count(1)", 7).due("count(2)", 19998).due("count(3)", 0);
        for (int p = 0; p < 10; p++) {
            r.after("lay(" + p + ", 2, 9)");
        }
        r.due("count(3)", 90).after("lay(5, 2, 1)").due("count(3)", 82);
        r.due("count(-1)", Run.BEYOND).due("count(4)", Run.BEYOND).due("status(0)", 2);
    }

    private static void status() {
        Run r = new Run("37, status");
        r.due("status(-1)", 0).due("status(7)", Run.BEYOND).due("status(0)", 1).due("status(-2)", Run.BEYOND).due("status(0)", 2);
        r.due("undo()", Run.NONE).due("image()", 1).due("guest(0, 0)", 0).due("guest(0, 0)", Run.STATE);
        r.due("as(0, 1)", Run.KIND).due("as(0, 2)", Run.KIND).due("lays(0)", Run.MISSING).due("sheet(0, 8, -1)", Run.SIZE);
        r.due("tells(0)", 11).due("dinner()", -1).due("undo()", 0).due("change(1)", Run.NONE);
        for (int i = 0; i < 30; i++) {
            r.after("feed(0, 4)");
        }
        r.due("feed(0, 1)", Run.FULL).due("feed(0, 4)", Run.FULL).due("feed(0, 2)", Run.FULL);
        int[] want = {2, 3, 2, 2, 1, 1, 1};
        for (int i = 0; i < 7; i++) {
            r.due("status(" + i + ")", want[i]);
        }
        r.due("status(-1)", 12).due("status(-1)", 12);
    }
}
