/** Every act that answers a finding changes nothing but status(), and counts it once; every act asked ahead changes nothing. */
public final class FindingsTest {
    public static void main(String[] args) {
        beyond("lay(10, 0, 0)", "lay(0, 3, 1)", "lay(0, 0, 2)", "lay(1, 2, 10)", "place(10, 0)", "place(0, 4)", "now(6)");
        beyond("guest(6, 5)", "guest(0, 10)", "guest(-1, 0)", "of(4, 0)", "of(0, 9)", "set(4, 2, 1)", "set(0, 1, 1)");
        beyond("set(0, 2, 100)", "set(0, 3, 10000)", "set(0, 4, -1)", "seat(4, 5)", "seat(0, 10)", "swap(1, 1)", "swap(0, 4)");
        beyond("turn(4, 1)", "turn(0, 6)", "as(4, 0)", "as(0, 6)", "courses(0)", "courses(61)", "on(4, 1, 0)", "on(0, 101, 0)");
        beyond("on(0, 1, 3)", "mood(101)", "tells(4)", "quarrels(4)", "best(4, 1)", "best(0, 41)", "laid(10, 1)", "laid(0, 41)");
        beyond("knife(41)", "kind(4, 1)", "kind(0, 41)", "spoon(10, 1, 0)", "spoon(0, 41, 0)", "spoon(0, 1, 1000)", "change(41)");
        beyond("feed(0, 0)", "feed(0, 5)", "sheet(4, 8, 1)", "sheet(0, 9, 1)", "sheet(0, 0, 41)", "write(4, 0, 1)");
        beyond("write(0, 3, 1)", "copy(0, 0, 4, 0, 1)", "copy(0, 2, 1, 0, 2)", "copy(0, 0, 1, 1, 2)", "lays(4)", "book(4, 0)");
        beyond("book(0, 4)", "read(4, 0)", "read(0, 4)", "count(4)", "status(7)", "status(-2)");
        due(Run.FULL, "feed(0, 4)", "feed(-1, 3)");
        due(Run.KIND, "as(0, 1)", "as(1, 4)", "copy(0, 0, 2, 0, 1)");
        due(Run.NONE, "quarrels(3)", "spoon(0, 40, 999)", "peace()", "tells(0)");
        due(Run.STATE, "guest(0, 9)", "seat(0, 9)", "seat(3, 0)");
        due(Run.MISSING, "write(3, 0, 1)", "copy(3, 0, 0, 0, 1)", "copy(0, 0, 3, 0, 1)", "lays(3)", "book(3, 0)", "read(3, 0)");
        due(Run.SIZE, "sheet(0, 8, -1)", "sheet(0, 0, -1)");
        aheadChangesNothing("on(0, 100, 0)", "mood(100)", "quarrels(1)", "best(0, 40)", "laid(1, 40)", "knife(40)", "kind(1, 40)");
        aheadChangesNothing("spoon(0, 40, -999)", "change(40)", "read(0, 2)", "of(0, 6)", "now(3)", "place(1, 3)", "as(1, 0)");
        aheadChangesNothing("image()", "count(2)", "status(-1)", "copy(0, 0, 0, 0, 3)", "copy(0, 3, 1, 2, 0)");
        Run.end();
    }

    private static void beyond(String... calls) {
        due(Run.BEYOND, calls);
    }

    private static void due(int finding, String... calls) {
        for (String call : calls) {
            Fixture.refuses("a finding", call, finding);
        }
    }

    private static void aheadChangesNothing(String... calls) {
        for (String call : calls) {
            Fixture.changesNothing(call);
        }
    }
}
