/** Promises 18 to 23: what is best. */
public final class BestTest {
    public static void main(String[] args) {
        best();
        bestGoesByHowFar();
        laid();
        knife();
        kind();
        kindGoesByHowFar();
        spoon();
        change();
        changeOfSeveral();
        Run.end();
    }

    private static void best() {
        Run r = new Run("18, best");
        r.after("guest(0, 5)").due("best(0, 1)", 0).due("best(0, 40)", 0);
        r.after("lay(0, 0, 1)").due("best(0, 1)", 1);
        r.after("guest(1, 1)").due("best(0, 1)", 2);
        r.after("lay(1, 0, 1)").due("best(0, 1)", 3).due("of(0, 1)", 5).due("now(0)", 0);
        r.after("lay(5, 0, 1)", "lay(1, 0, 0)").due("best(0, 1)", 2);
        r.due("best(0, 0)", Run.BEYOND).due("best(0, 41)", Run.BEYOND).due("best(2, 1)", Run.BEYOND);
        r.due("best(-1, 1)", Run.BEYOND).due("status(0)", 4).due("of(0, 1)", 5);
        Run worst = new Run("18, best, all held at -99");
        worst.after("guest(0, 7)", "set(0, 2, -99)");
        Run own = new Run("18, best, one's own place");
        own.after("guest(0, 7)");
        for (int p = 0; p < 10; p++) {
            worst.after("lay(" + p + ", 0, 1)");
            own.after("lay(" + p + ", 1, " + (p == 7 ? 0 : 1) + ")");
        }
        worst.due("best(0, 40)", 0);
        own.due("best(0, 3)", 7);
    }

    private static void bestGoesByHowFar() {
        Run r = new Run("18, best, by how far");
        r.after("guest(2, 2)", "guest(0, 5)", "guest(0, 7)", "set(0, 2, 90)");
        r.due("best(0, 1)", 6).due("best(0, 2)", 6).due("best(0, 3)", 4).due("best(0, 4)", 4).due("best(0, 5)", 0);
    }

    private static void laid() {
        Run r = new Run("19, laid");
        r.due("laid(0, 1)", 0).due("laid(9, 40)", 0);
        r.after("guest(5, 4)", "guest(3, 5)", "lay(4, 0, 1)", "lay(4, 1, 1)", "lay(4, 2, 6)", "lay(5, 0, 1)");
        r.due("laid(4, 1)", 0).due("laid(5, 40)", 0).due("laid(3, 7)", 0);
        r.due("place(4, 0)", 1).due("place(4, 1)", 1).due("place(4, 2)", 6).due("now(0)", 0);
        r.due("laid(-1, 1)", Run.BEYOND).due("laid(10, 1)", Run.BEYOND).due("laid(0, 0)", Run.BEYOND);
        r.due("laid(0, 41)", Run.BEYOND).due("status(0)", 4);
    }

    private static void knife() {
        Run r = new Run("20, knife");
        r.due("knife(1)", 0).due("knife(40)", 0);
        r.after("guest(0, 0)", "guest(0, 1)").due("knife(1)", 2);
        r.after("lay(1, 0, 1)").due("knife(1)", 1);
        r.after("guest(0, 4)", "lay(4, 0, 1)").due("knife(3)", 1);
        r.after("guest(0, 3)", "guest(0, 5)").due("knife(3)", 4).due("place(4, 0)", 1).due("place(1, 0)", 1);
        r.after("set(2, 2, 99)", "set(3, 2, 99)", "set(4, 2, 99)").due("knife(3)", 1);
        r.after("lay(4, 0, 0)", "lay(9, 0, 1)", "lay(8, 0, 1)").due("knife(2)", 1);
        new Run("20, knife, of one alone").after("guest(0, 5)", "lay(5, 0, 1)").due("knife(1)", 5);
        r.due("knife(0)", Run.BEYOND).due("knife(41)", Run.BEYOND).due("status(0)", 2).due("now(0)", 0);
    }

    private static void kind() {
        Run r = new Run("21, kind");
        r.after("guest(3, 5)").due("kind(0, 1)", 0).due("kind(0, 40)", 0);
        r.after("lay(5, 1, 1)").due("kind(0, 1)", 3).after("lay(5, 1, 0)");
        r.after("guest(0, 6)").due("kind(0, 1)", 5);
        r.after("lay(6, 1, 1)").due("kind(0, 7)", 2);
        r.after("lay(6, 0, 1)").due("kind(0, 7)", 1);
        r.after("guest(0, 4)", "lay(4, 0, 1)", "lay(4, 1, 1)").due("kind(0, 7)", 4).due("of(0, 0)", 3);
        r.due("kind(3, 1)", Run.BEYOND).due("kind(-1, 1)", Run.BEYOND).due("kind(0, 0)", Run.BEYOND);
        r.due("kind(0, 41)", Run.BEYOND).due("status(0)", 4).due("now(0)", 0);
    }

    private static void kindGoesByHowFar() {
        Run r = new Run("21, kind, by how far");
        r.after("guest(3, 5)", "guest(0, 4)", "guest(0, 6)", "set(0, 2, 90)");
        r.due("kind(0, 1)", 5).due("kind(0, 2)", 2).due("kind(0, 4)", 2).due("kind(0, 5)", 0).due("of(0, 2)", 190);
        Run worst = new Run("21, kind, all held at -99");
        worst.after("guest(5, 5)", "lay(5, 0, 1)", "lay(5, 1, 1)", "set(0, 2, -99)", "guest(0, 4)", "guest(0, 6)");
        worst.due("kind(0, 3)", 0);
    }

    private static void spoon() {
        Run r = new Run("22, spoon");
        r.after("guest(1, 5)", "lay(5, 2, 4)");
        r.due("spoon(5, 10, 0)", 2).due("spoon(5, 10, 20)", 0).due("spoon(5, 10, 21)", Run.NONE);
        r.due("spoon(5, 10, 10)", 1).due("spoon(5, 10, 11)", 0).due("spoon(5, 10, -70)", 9).due("spoon(5, 10, -69)", 8);
        r.due("spoon(5, 40, -999)", 9).due("spoon(5, 1, 999)", Run.NONE).due("place(5, 2)", 4);
        r.due("spoon(4, 10, -20)", 9).due("spoon(4, 10, -19)", Run.NONE).due("status(3)", 3);
        r.after("guest(0, 0)").due("spoon(5, 10, 20)", 2);
        for (String call : new String[] {
            "spoon(-1, 1, 0)", "spoon(10, 1, 0)", "spoon(5, 0, 0)", "spoon(5, 41, 0)", "spoon(5, 1, 1000)",
            "spoon(5, 1, -1000)"}) {
            r.due(call, Run.BEYOND);
        }
        r.due("status(0)", 6).due("now(0)", 0);
    }

    private static void change() {
        Run r = new Run("23, change");
        r.due("change(1)", Run.NONE).after("guest(0, 0)", "set(0, 2, -99)").due("change(1)", Run.NONE);
        r.after("guest(0, 1)", "set(1, 2, -99)").due("change(10)", Run.NONE);
        r.after("guest(0, 5)").due("change(10)", 2).due("change(1)", 2).due("change(40)", 2);
        r.after("set(2, 2, -99)").due("change(10)", Run.NONE).due("of(0, 1)", 0).due("count(2)", 0);
        r.due("change(0)", Run.BEYOND).due("change(41)", Run.BEYOND).due("status(0)", 2).due("status(3)", 4);
    }

    private static void changeOfSeveral() {
        Run r = new Run("23, change, of several");
        r.after("guest(0, 0)", "guest(0, 1)", "guest(0, 2)", "guest(0, 5)", "guest(0, 7)");
        r.after("set(0, 2, -99)", "set(1, 2, -99)", "set(2, 2, -99)").due("change(10)", 13);
        r.after("set(3, 2, -99)", "lay(5, 0, 1)").due("change(10)", 14);
        r.due("of(1, 1)", 1).due("of(4, 1)", 7).due("now(0)", 0);
        Run next = new Run("23, change, with the next one");
        next.after("guest(0, 0)", "guest(0, 5)", "guest(0, 1)", "set(0, 2, -99)", "set(2, 2, -99)").due("change(10)", 1);
        next.after("swap(0, 1)", "set(0, 2, 0)", "set(1, 2, -99)").due("change(10)", 1);
        next.after("lay(5, 0, 1)", "lay(5, 1, 1)").due("change(40)", 1).due("count(2)", 0);
        Run last = new Run("23, change, with the last ones");
        last.after("guest(0, 0)", "guest(0, 2)", "guest(0, 3)", "guest(0, 4)", "guest(0, 6)", "guest(0, 7)", "guest(0, 8)");
        last.after("guest(0, 9)", "set(2, 2, -99)", "set(3, 2, -99)", "set(6, 2, -99)").due("change(1)", 2);
        last.after("swap(2, 0)").due("change(1)", Run.NONE);
    }
}
