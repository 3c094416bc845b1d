/** Promises 5 to 11, each sentence by itself, at its edges. */
public final class EdgesOfGuestsTest {
    private static final String OF = "Of one: what 0 KIND, 1 PLACE, 2 100 and EASE, 3 TOLD, 4 QUARRELS, 5 100 and what it FEELS, "
        + "6 100 and what it CATCHES of all NEIGHBOURS, 7 100 and SORE, 8 NEIGHBOURS, as a set.";

    public static void main(String[] args) {
        guest();
        guestBeyond();
        guestFull();
        guestState();
        of();
        ofBeyond();
        set();
        setBeyond();
        seat();
        seatBeyond();
        seatState();
        swap();
        swapBeyond();
        turn();
        turnBeyond();
        as();
        asBeyond();
        asKind();
        Edge.end(5, 11);
    }

    private static void guest() {
        Run r = Edge.of(5, "One more AT a PLACE: the number.").run().due("guest(0, 9)", 0).due("guest(5, 0)", 1).due("count(0)", 2);
        r.due("of(0, 1)", 9).due("of(1, 0)", 5).due("of(1, 2)", 100).due("of(1, 3)", 0).due("of(1, 4)", 0).due("place(0, 3)", 1);
        Run again = new Run("5, the number, after one that was taken back");
        again.after("image()", "guest(0, 1)", "set(0, 2, 9)", "undo()").due("guest(2, 1)", 0).due("of(0, 2)", 100);
    }

    private static void guestBeyond() {
        Edge.of(5, "BEYOND: kind, place.").bounds("guest(#, 7)", 0, 5).places("guest(0, #)");
    }

    private static Run eight(Edge e) {
        Run r = e.run();
        for (int g = 0; g < 8; g++) {
            r.due("guest(0, " + g + ")", g);
        }
        return r;
    }

    private static void guestFull() {
        Run r = eight(Edge.of(5, "FULL.")).due("guest(0, 8)", Run.FULL).due("guest(0, 9)", Run.FULL).due("guest(5, 0)", Run.FULL);
        r.due("count(0)", 8).due("place(8, 3)", -1).due("place(9, 3)", -1).due("status(1)", 3).due("status(-1)", 3);
        r.after("tear()", "wipe()").due("guest(0, 8)", Run.FULL);
    }

    private static void guestState() {
        Edge e = Edge.of(5, "STATE: somebody is AT it.").refused(Run.STATE, "guest(0, 0)", "guest(5, 9)", "guest(3, 4)");
        Run r = e.run().after("guest(0, 0)", "seat(0, 9)").due("guest(0, 9)", Run.STATE).due("guest(0, 0)", 1);
        r.due("guest(0, 0)", Run.STATE).due("status(4)", 2);
    }

    private static void of() {
        Edge e = Edge.of(6, OF);
        Run r = e.run().after("guest(4, 9)", "guest(0, 8)", "guest(0, 0)", "set(0, 2, -99)", "set(0, 3, 9999)", "set(0, 4, 9999)");
        r.after("lay(9, 0, 1)", "lay(9, 1, 1)", "lay(9, 2, 9)").due("of(0, 0)", 4).due("of(0, 1)", 9).due("of(0, 2)", 1);
        r.due("of(0, 3)", 9999).due("of(0, 4)", 9999).due("of(0, 5)", 68).due("of(0, 6)", 100).due("of(0, 7)", 50).due("of(0, 8)", 6);
        r.after("set(0, 2, 99)").due("of(0, 2)", 199).after("turn(0, 3)", "lay(0, 1, 1)", "lay(8, 1, 1)").due("of(0, 6)", 94);
        Run alone = e.run().after("guest(0, 0)").due("of(0, 0)", 0).due("of(0, 1)", 0).due("of(0, 2)", 100).due("of(0, 6)", 100);
        alone.due("of(0, 8)", 0);
        eight(e).due("of(7, 1)", 7).due("of(7, 8)", 64);
    }

    private static void ofBeyond() {
        Edge e = Edge.of(6, "BEYOND.").guests("of(#, 0)").guests("of(#, 8)").bounds("of(3, #)", 0, 8);
        e.run().due("of(0, 0)", Run.BEYOND);
        eight(e).due("of(8, 0)", Run.BEYOND);
    }

    private static void set() {
        Run r = Edge.of(7, "EASE (what 2), TOLD (3), QUARRELS (4) of one becomes v: what it was.").run().after("guest(0, 0)", "guest(0, 5)");
        r.due("set(1, 2, -99)", 0).due("set(1, 2, 99)", -99).due("set(1, 2, 0)", 99).due("of(1, 2)", 100);
        r.due("set(1, 3, 9999)", 0).due("set(1, 3, 0)", 9999).due("set(1, 3, 1)", 0).due("of(1, 3)", 1);
        r.due("set(1, 4, 9999)", 0).due("set(1, 4, 0)", 9999).due("set(1, 4, 2)", 0).due("of(1, 4)", 2);
        r.due("of(0, 2)", 100).due("of(0, 3)", 0).due("of(0, 4)", 0).due("of(1, 2)", 100);
    }

    private static void setBeyond() {
        Edge e = Edge.of(7, "BEYOND.").guests("set(#, 2, 0)").guests("set(#, 3, 0)").guests("set(#, 4, 0)").bounds("set(0, #, 0)", 2, 4);
        e.bounds("set(3, 2, #)", -99, 99).bounds("set(3, 3, #)", 0, 9999).bounds("set(3, 4, #)", 0, 9999);
    }

    private static void seat() {
        Run r = Edge.of(8, "One goes to another PLACE: where it was AT.").run().after("guest(0, 0)").due("seat(0, 9)", 0);
        r.due("seat(0, 9)", 9).due("seat(0, 0)", 9).due("of(0, 1)", 0).due("place(9, 3)", -1).due("place(0, 3)", 0);
        r.due("status(-1)", 0);
    }

    private static void seatBeyond() {
        Edge.of(8, "BEYOND.").guests("seat(#, 7)").places("seat(0, #)").beyond("seat(4, 10)", "seat(-1, 0)");
    }

    private static void seatState() {
        Edge e = Edge.of(8, "STATE: somebody else is AT it.").refused(Run.STATE, "seat(0, 9)", "seat(2, 0)", "seat(1, 4)");
        Run r = e.run().after("guest(0, 0)", "guest(0, 9)").due("seat(0, 9)", Run.STATE).due("seat(1, 9)", 9).due("seat(1, 8)", 9);
        r.due("seat(0, 9)", 0).due("status(-1)", 1);
    }

    private static void swap() {
        Edge e = Edge.of(9, "Two change PLACES: 1.");
        Run r = e.run().after("guest(0, 0)", "guest(5, 9)", "set(1, 2, 7)", "lay(9, 2, 3)");
        r.due("swap(0, 1)", 1).due("of(0, 1)", 9).due("of(1, 1)", 0).due("place(0, 3)", 1).due("place(9, 3)", 0).due("of(1, 2)", 107);
        r.due("place(9, 2)", 3).due("of(1, 0)", 5).due("swap(1, 0)", 1).due("of(0, 1)", 0).due("of(1, 1)", 9);
        eight(e).due("swap(7, 0)", 1).due("of(7, 1)", 0).due("of(0, 1)", 7);
    }

    private static void swapBeyond() {
        Edge e = Edge.of(9, "BEYOND: also one and the same.").bounds("swap(#, 0)", 1, 3).bounds("swap(1, #)", 2, 3);
        e.bounds("swap(3, #)", 0, 2).beyond("swap(0, 0)", "swap(3, 3)", "swap(4, 4)", "swap(-1, -1)");
    }

    private static void turn() {
        Run r = Edge.of(10, "One becomes one of another KIND: what it was.").run().after("guest(0, 0)", "guest(0, 5)", "set(0, 2, 9)");
        r.due("turn(0, 5)", 0).due("turn(0, 0)", 5).due("turn(0, 4)", 0).due("of(0, 0)", 4).due("of(1, 0)", 0).due("of(0, 2)", 109);
        r.due("turn(0, 4)", 4).due("status(-1)", 0);
    }

    private static void turnBeyond() {
        Edge.of(10, "BEYOND.").guests("turn(#, 0)").bounds("turn(3, #)", 0, 5);
    }

    private static void as() {
        Run r = Edge.of(11, "100 and EASE of one as one of a kind.").run().after("guest(4, 0)", "set(0, 2, -99)");
        r.due("as(0, 4)", 1).due("as(0, 1)", 1).due("as(0, 0)", 1).after("set(0, 2, 99)").due("as(0, 0)", 199).due("of(0, 0)", 4);
    }

    private static void asBeyond() {
        Edge.of(11, "BEYOND: no such one, kind.").guests("as(#, 0)").bounds("as(2, #)", 0, 5).beyond("as(4, 5)", "as(3, 6)");
    }

    private static void asKind() {
        Edge e = Edge.of(11, "KIND: it isn't of that kind, nor of one under it.");
        // On the fixture: 0 is a guest, 1 a bishop, 2 a cardinal, 3 an envoy.
        e.refused(Run.KIND, "as(0, 1)", "as(0, 2)", "as(0, 3)", "as(0, 4)", "as(0, 5)", "as(1, 4)", "as(1, 2)", "as(2, 2)");
        e.refused(Run.KIND, "as(2, 3)", "as(2, 5)", "as(3, 1)", "as(3, 5)");
        Run r = e.run().after("guest(5, 0)").due("as(0, 5)", 100).due("as(0, 2)", 100).due("as(0, 0)", 100).due("as(0, 1)", Run.KIND);
        r.due("as(0, 3)", Run.KIND).due("as(0, 4)", Run.KIND).after("turn(0, 2)").due("as(0, 5)", Run.KIND).due("as(0, 2)", 100);
    }
}
