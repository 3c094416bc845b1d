/** What the document tells ahead of its promises, but for the text: each sentence by itself, at its edges. */
public final class EdgesOfTermsTest {
    private static final String FINDINGS = "FINDINGS are answers below -1000000000: -1000000001 BEYOND, -1000000002 FULL, "
        + "-1000000003 KIND, -1000000004 NONE, -1000000005 STATE, -1000000006 MISSING, -1000000007 SIZE (in longs, too).";
    private static final String KINDS = "are of KINDS: 0 GUEST, 1 BISHOP under GUEST, 2 LADY under GUEST, 3 ENVOY under GUEST, "
        + "4 CARDINAL under BISHOP, 5 BRIDE under LADY;";

    public static void main(String[] args) {
        atMost512Calls();
        findings();
        findingsInLongs();
        theOrderOfFindings();
        aFindingChangesNothing();
        setsAreToldByBits();
        course();
        places();
        knife();
        fork();
        spoon();
        guestsAtMostEight();
        kinds();
        noTwoAtOne();
        ease();
        told();
        quarrels();
        neighbours();
        EdgesOfKinds.ask();
        foundOutFirst();
        easeIsAllThatMore();
        oneThatTells();
        twoQuarrelBelowSore();
        twoQuarrelByEaseThen();
        oneMoreForEachNeighbour();
        courseIsOneMore();
        peace();
        ahead();
        sheets();
        wordsBetween();
        EdgesOfTheText.ask();
        Edge.end(Edge.TERMS, Edge.TERMS);
    }

    private static void wordsBetween() {
        Edge.passes(Edge.TERMS, "Quotients are cut.", "1. COURSE", "```text", "```", "2. AHEAD", "3. SHEETS", "EASE being e as the course begins");
        Edge.passes(Edge.TERMS, "of all GUESTS by numbers:", "Then by numbers:", "A COURSE goes:");
        String[][] heads = {
            {"`lay`, `place`, `now`", "the table"}, {"`guest`, `of`, `set`, `seat`, `swap`, `turn`, `as`", "guests"},
            {"`courses`, `on`, `mood`, `peace`, `tells`, `quarrels`", "courses"},
            {"`best`, `laid`, `knife`, `kind`, `spoon`, `change`", "what is best"}, {"`feed`, `wipe`, `dinner`", "the text"},
            {"`sheet`, `write`, `copy`, `lays`, `book`, `read`", "sheets"},
            {"`image`, `undo`, `tear`, `count`, `status`", "images"}};
        for (String[] head : heads) {
            Edge.passes(Edge.TERMS, "Ahead of the calls " + head[0] + " the interface says: ---- " + head[1] + ".");
        }
    }

    private static void atMost512Calls() {
        Run r = Edge.of(Edge.WHAT_IT_IS, "An object is used for at most 512 calls after it has been made").run();
        for (int i = 0; i < 511; i++) {
            r.due("courses(60)", 0);
        }
        r.due("now(0)", 511 * 60);
    }

    private static Run fullTable(Run r) {
        for (int g = 0; g < 8; g++) {
            r.due("guest(0, " + g + ")", g);
        }
        return r;
    }

    private static void findings() {
        Run r = fullTable(Edge.of(Edge.TERMS, FINDINGS).run());
        r.due("now(6)", -1000000001).due("guest(0, 8)", -1000000002).due("as(0, 1)", -1000000003).due("undo()", -1000000004);
        r.due("seat(0, 1)", -1000000005).due("lays(0)", -1000000006).due("sheet(0, 8, -1)", -1000000007).due("status(-1)", 7);
    }

    private static void findingsInLongs() {
        Run r = Edge.of(Edge.TERMS, "(in longs, too)").run();
        r.due("write(4, 0, 0)", -1000000001L).due("write(0, 0, 0)", -1000000006L).due("sheet(0, 64, 1)", 1);
        r.due("write(0, 1, 0)", -1000000001L).due("status(0)", 2).due("status(5)", 1);
        // A number that looks like a finding is none.
        r.due("write(0, 0, -1000000006)", 0).due("write(0, 0, 0)", -1000000006L).due("status(5)", 1).due("status(-1)", 3);
    }

    private static void theOrderOfFindings() {
        Edge e = Edge.of(Edge.TERMS, "Each act tells its findings in the order in which they are asked;");
        e.beyond("guest(6, 9)", "guest(-1, 0)", "seat(4, 9)", "as(4, 1)", "as(0, 6)", "spoon(0, 41, 999)", "spoon(0, 1, 1000)");
        e.beyond("change(0)", "feed(0, 5)", "sheet(4, 8, -1)", "sheet(0, 7, -1)", "sheet(4, 7, 41)", "write(4, 40, 0)");
        e.beyond("copy(4, 0, 3, 0, 0)", "copy(3, 0, 4, 0, 0)", "copy(3, -1, -1, -1, -1)", "book(4, 4)", "read(4, 4)", "tells(4)");
        e.refused(Run.MISSING, "write(3, 40, 0)", "write(3, -1, 0)", "copy(3, 0, 2, 0, 0)", "copy(0, -1, 3, -1, -1)");
        e.refused(Run.MISSING, "book(3, 4)", "read(3, -1)").refused(Run.KIND, "copy(2, -1, 0, -1, -1)", "copy(1, 99, 2, 99, 99)");
        Run full = fullTable(e.run());
        full.due("guest(0, 0)", Run.FULL).due("guest(6, 0)", Run.BEYOND).due("guest(0, 10)", Run.BEYOND);
    }

    private static void aFindingChangesNothing() {
        Edge e = Edge.of(Edge.TERMS, "one that answers a finding changes nothing but status().");
        e.refused(Run.BEYOND, "lay(0, 0, 2)").refused(Run.FULL, "feed(0, 3)").refused(Run.KIND, "as(0, 1)");
        e.refused(Run.NONE, "peace()").refused(Run.STATE, "seat(0, 9)").refused(Run.MISSING, "lays(3)");
        e.refused(Run.SIZE, "sheet(0, 8, -1)");
    }

    private static void setsAreToldByBits() {
        Run r = Edge.of(Edge.TERMS, "Sets are told by bits.").run().due("now(3)", 0).due("now(2)", 0);
        fullTable(r).after("set(7, 2, -21)").due("now(3)", 128).after("set(0, 2, -21)").due("now(3)", 129);
        r.after("set(7, 2, 20)").due("now(2)", 128).due("now(3)", 1).after("set(0, 2, 20)").due("now(2)", 129);
        r.due("of(0, 8)", 2).due("of(1, 8)", 5).due("of(6, 8)", 32 + 128).due("of(7, 8)", 64);
        for (int g = 0; g < 8; g++) {
            r.after("set(" + g + ", 2, -99)");
        }
        r.due("now(3)", 255).due("courses(1)", 255);
    }

    /** Goes past the 512th call, for nothing nearer reaches the last course: it's this program's own promise. */
    private static void course() {
        Run r = Edge.of(Edge.TERMS, ": 0 at first (99999 at most).").run().due("now(0)", 0);
        for (int i = 0; i < 1666; i++) {
            r.after("courses(60)");
        }
        r.due("courses(39)", 0).due("now(0)", 99999).due("courses(1)", Run.STATE).due("now(0)", 99999);
    }

    private static void places() {
        Edge e = Edge.of(Edge.TERMS, "PLACES 0 to 9 round a table (0 beside 9), each with");
        e.places("lay(#, 0, 1)").places("place(#, 0)");
        e.run().after("guest(0, 0)", "guest(0, 9)").due("of(0, 8)", 2).due("of(1, 8)", 1);
        e.run().after("guest(0, 0)", "guest(0, 8)").due("of(0, 8)", 0).due("of(1, 8)", 0);
        e.run().after("guest(0, 9)", "guest(0, 1)").due("of(0, 8)", 0).due("of(1, 8)", 0);
        Run round = e.run().after("guest(2, 0)", "guest(0, 1)", "guest(0, 9)").due("of(0, 8)", 6).due("of(0, 5)", 104);
        round.after("lay(9, 0, 1)").due("of(0, 6)", 101).after("lay(9, 1, 1)").due("of(0, 6)", 100);
    }

    private static void knife() {
        Edge e = Edge.of(Edge.TERMS, "a KNIFE (0: blade out, at first; 1: blade in, to the heart),");
        e.bounds("lay(2, 0, #)", 0, 1);
        e.run().after("guest(0, 2)").due("place(2, 0)", 0).due("of(0, 5)", 102).after("lay(2, 0, 1)").due("of(0, 5)", 97);
    }

    private static void fork() {
        Edge e = Edge.of(Edge.TERMS, "a FORK (0: straight, at first; 1: crossed)");
        e.bounds("lay(2, 1, #)", 0, 1);
        e.run().after("guest(0, 2)").due("place(2, 1)", 0).due("of(0, 5)", 102).after("lay(2, 1, 1)").due("of(0, 5)", 98);
    }

    private static void spoon() {
        Edge e = Edge.of(Edge.TERMS, "and a SPOON (0 to 9 hairs out; 0 at first).");
        e.bounds("lay(2, 2, #)", 0, 9);
        e.run().after("guest(1, 2)").due("place(2, 2)", 0).due("of(0, 5)", 102).after("lay(2, 2, 9)").due("of(0, 5)", 93);
    }

    private static void guestsAtMostEight() {
        Run r = Edge.of(Edge.TERMS, "GUESTS 0, 1, .. (at most 8)").run().due("count(0)", 0).due("of(0, 0)", Run.BEYOND);
        fullTable(r).due("count(0)", 8).due("of(7, 1)", 7).due("of(8, 1)", Run.BEYOND).due("guest(0, 9)", Run.FULL);
        r.due("count(0)", 8).due("place(9, 3)", -1).dinner("guest 9", -1).due("count(0)", 8);
    }

    private static void kinds() {
        Edge e = Edge.of(Edge.TERMS, KINDS);
        int[][] under = {{0}, {0, 1}, {0, 2}, {0, 3}, {0, 1, 4}, {0, 2, 5}};
        for (int kind = 0; kind < 6; kind++) {
            Run r = e.run().due("guest(" + kind + ", 0)", 0).due("of(0, 0)", kind);
            for (int above : under[kind]) {
                r.due("as(0, " + above + ")", 100);
            }
            for (int other = 0; other < 6; other++) {
                r.after("as(0, " + other + ")");
            }
            r.due("status(2)", 6 - under[kind].length);
        }
        e.bounds("guest(#, 7)", 0, 5).bounds("turn(0, #)", 0, 5).bounds("as(0, #)", 0, 5);
    }

    private static void noTwoAtOne() {
        Edge e = Edge.of(Edge.TERMS, "each AT a PLACE (no two AT one),");
        e.refused(Run.STATE, "guest(0, 0)", "guest(5, 9)", "seat(0, 9)", "seat(3, 1)");
        e.run().after("guest(0, 3)").dinner("lady 3", -6).due("count(0)", 1).due("place(3, 3)", 0);
        e.run().after("guest(0, 3)", "guest(0, 4)", "swap(0, 1)").due("place(3, 3)", 1).due("place(4, 3)", 0);
    }

    private static void ease() {
        Edge e = Edge.of(Edge.TERMS, "with EASE (-99 to 99; 0 at first),");
        e.bounds("set(1, 2, #)", -99, 99);
        e.run().after("guest(0, 0)").due("of(0, 2)", 100).after("courses(60)").due("of(0, 2)", 199);
        e.run().after("guest(0, 0)", "lay(0, 0, 1)", "courses(60)").due("of(0, 2)", 1);
    }

    private static void told() {
        Edge e = Edge.of(Edge.TERMS, "TOLD (things told: 0 at first, held to 9999),");
        e.bounds("set(1, 3, #)", 0, 9999);
        Run r = e.run().after("guest(1, 0)", "lay(0, 2, 1)").due("of(0, 3)", 0).after("courses(1)").due("of(0, 3)", 1);
        r.after("set(0, 3, 9998)", "courses(1)").due("of(0, 3)", 9999).after("courses(1)").due("of(0, 3)", 9999);
        r.after("courses(60)").due("of(0, 3)", 9999).due("on(0, 100, 1)", 9999).due("now(5)", 9999);
    }

    private static void quarrels() {
        Edge e = Edge.of(Edge.TERMS, "QUARRELS (0 at first, held to 9999).");
        e.bounds("set(1, 4, #)", 0, 9999);
        Run r = e.run().after("guest(0, 0)", "guest(0, 1)", "lay(0, 0, 1)", "lay(1, 0, 1)", "set(0, 2, -99)", "set(1, 2, -99)");
        r.due("of(0, 4)", 0).after("courses(1)").due("of(0, 4)", 1).after("set(0, 4, 9998)", "courses(1)").due("of(0, 4)", 9999);
        r.after("courses(1)").due("of(0, 4)", 9999).due("of(1, 4)", 3).due("on(0, 100, 2)", 9999).due("count(2)", 10002);
    }

    private static void neighbours() {
        Edge e = Edge.of(Edge.TERMS, "NEIGHBOURS: those AT the PLACES beside.");
        e.run().after("guest(0, 4)").due("of(0, 8)", 0);
        e.run().after("guest(0, 4)", "guest(0, 6)").due("of(0, 8)", 0).due("of(1, 8)", 0);
        e.run().after("guest(0, 4)", "guest(0, 5)").due("of(0, 8)", 2).due("of(1, 8)", 1);
        e.run().after("guest(0, 4)", "guest(0, 3)", "guest(0, 5)").due("of(0, 8)", 6).due("of(1, 8)", 1).due("of(2, 8)", 1);
    }

    private static void foundOutFirst() {
        Edge e = Edge.of(Edge.TERMS, "what they FEEL and CATCH, whether they TELL, is found out first.");
        Run up = e.run().after("guest(5, 0)", "set(0, 2, 4)", "courses(1)").due("of(0, 2)", 106).due("of(0, 3)", 0);
        up.after("courses(1)").due("of(0, 3)", 1);
        e.run().after("guest(5, 0)", "lay(0, 1, 1)", "set(0, 2, 5)", "courses(1)").due("of(0, 2)", 96).due("of(0, 3)", 1);
        e.run().after("guest(4, 0)", "lay(0, 2, 1)", "set(0, 2, -1)", "courses(1)").due("of(0, 2)", 100).due("of(0, 3)", 1);
    }

    private static void easeIsAllThatMore() {
        Edge e = Edge.of(Edge.TERMS, "EASE is all that more (held);");
        Run up = e.run().after("guest(0, 0)", "set(0, 2, 97)", "courses(1)").due("of(0, 2)", 199).after("courses(1)");
        up.due("of(0, 2)", 199).after("set(0, 2, 98)", "courses(1)").due("of(0, 2)", 199);
        Run down = e.run().after("guest(4, 0)", "guest(0, 1)", "guest(0, 9)", "lay(0, 0, 1)", "lay(0, 1, 1)", "lay(0, 2, 9)");
        down.due("on(0, 1, 0)", -32).due("on(0, 3, 0)", -96).due("on(0, 4, 0)", -99).after("courses(4)").due("of(0, 2)", 1);
        down.after("set(0, 2, -67)", "courses(1)").due("of(0, 2)", 1).after("set(0, 2, -68)", "courses(1)").due("of(0, 2)", 1);
        // What was held is gone: it goes up from -99 at once.
        down.after("lay(0, 0, 0)", "lay(0, 1, 0)", "lay(0, 2, 0)", "courses(1)").due("of(0, 2)", 5);
        Run both = e.run().after("guest(5, 5)", "guest(0, 4)", "guest(0, 6)", "courses(1)").due("of(0, 2)", 100 + 4 + 4);
        both.after("set(0, 2, 92)", "courses(1)").due("of(0, 2)", 199);
    }

    private static void oneThatTells() {
        Run r = Edge.of(Edge.TERMS, "one that TELLS: TOLD is 1 more.").run().after("guest(0, 0)", "guest(0, 5)");
        r.after("set(0, 2, 20)", "set(1, 2, 19)", "courses(1)").due("of(0, 3)", 1).due("of(1, 3)", 0);
        r.after("courses(1)").due("of(0, 3)", 2).due("of(1, 3)", 1);
    }

    private static Run twoBeside(Edge e, int ease, int other) {
        return e.run().after("guest(3, 9)", "guest(3, 0)", "lay(9, 2, 1)", "lay(0, 2, 1)", "set(0, 2, " + ease + ")", "set(1, 2, " + other + ")");
    }

    /** Two envoys beside one another feel -2 and are sore below -10. */
    private static void twoQuarrelBelowSore() {
        Edge e = Edge.of(Edge.TERMS, "Then two NEIGHBOURS that both have EASE below what they are SORE at QUARREL:");
        twoBeside(e, -8, -8).due("courses(1)", 0).due("count(2)", 0).due("courses(1)", 3).due("count(2)", 2);
        twoBeside(e, -9, -8).due("courses(1)", 1).due("count(2)", 0);
        twoBeside(e, -8, -9).due("courses(1)", 2).due("count(2)", 0);
        twoBeside(e, -9, -9).due("courses(1)", 3).due("of(0, 4)", 1).due("of(1, 4)", 1);
        twoBeside(e, -99, -99).after("seat(1, 1)").due("courses(1)", 3).due("count(2)", 0);
    }

    private static void twoQuarrelByEaseThen() {
        Edge e = Edge.of(Edge.TERMS, "Then two NEIGHBOURS that both have EASE below what they are SORE at QUARREL:");
        Run up = e.run().after("guest(0, 4)", "guest(0, 5)", "set(0, 2, -22)", "set(1, 2, -99)").due("now(3)", 3);
        up.due("courses(1)", 2).due("count(2)", 0);
        Run still = e.run().after("guest(0, 4)", "guest(0, 5)", "set(0, 2, -23)", "set(1, 2, -99)");
        still.due("courses(1)", 3).due("count(2)", 2).due("courses(1)", 2).due("count(2)", 2);
    }

    private static void oneMoreForEachNeighbour() {
        Edge e = Edge.of(Edge.TERMS, "QUARRELS of each is 1 more for each such NEIGHBOUR (held).");
        Run r = e.run();
        for (int g = 0; g < 3; g++) {
            r.after("guest(1, " + (g + 8) % 10 + ")", "set(" + g + ", 2, -99)");
        }
        r.due("courses(1)", 7).due("of(0, 4)", 1).due("of(1, 4)", 2).due("of(2, 4)", 1).due("count(2)", 4);
        r.after("set(1, 4, 9998)", "set(0, 4, 9999)", "courses(1)").due("of(0, 4)", 9999).due("of(1, 4)", 9999).due("of(2, 4)", 2);
        r.after("set(1, 4, 9997)", "courses(1)").due("of(1, 4)", 9999).after("set(2, 2, 0)", "set(1, 4, 0)", "courses(1)");
        r.due("of(1, 4)", 1).due("of(2, 4)", 3);
    }

    private static void courseIsOneMore() {
        Run r = Edge.of(Edge.TERMS, "COURSE is 1 more.").run().due("now(0)", 0).after("courses(1)").due("now(0)", 1);
        r.after("courses(60)").due("now(0)", 61);
    }

    private static void peace() {
        Run r = Edge.of(Edge.TERMS, "PEACE: no GUEST has EASE below what it is SORE at.").run().due("now(1)", 1).due("peace()", 0);
        r.after("guest(0, 0)", "guest(5, 5)", "set(0, 2, -20)", "set(1, 2, -5)").due("now(1)", 1).due("peace()", 0);
        r.after("set(0, 2, -21)").due("now(1)", 0).due("peace()", 1).after("set(0, 2, -20)", "set(1, 2, -6)").due("now(1)", 0);
    }

    private static void ahead() {
        Edge e = Edge.of(Edge.TERMS, ": n COURSES go on with all as it is; nothing changes.");
        for (String call : new String[] {
            "on(0, 0, 0)", "on(1, 100, 2)", "mood(0)", "mood(100)", "quarrels(0)", "best(1, 40)", "laid(0, 40)", "knife(40)",
            "kind(2, 40)", "spoon(1, 40, -999)", "change(40)", "read(0, 0)", "tells(1)"}) {
            Fixture.changesNothing(call);
        }
        e.laid().due("on(1, 0, 0)", -88).due("on(1, 0, 1)", 6).due("on(3, 0, 2)", 2).due("now(0)", 2);
    }

    private static void sheets() {
        Edge e = Edge.of(Edge.TERMS, "SHEETS 0 to 3 are rows of at most 40 numbers of 8, 16 or 64 bits, or MISSING (at first).");
        e.bounds("sheet(#, 8, 1)", 0, 3).bounds("write(#, 0, 1)", 0, 3).bounds("lays(#)", 0, 3);
        e.beyond("sheet(0, 8, 41)", "sheet(0, 16, 41)", "sheet(0, 64, 41)", "sheet(0, 0, 41)", "sheet(0, 32, 1)", "sheet(0, 1, 1)");
        Run r = e.run();
        for (int s = 0; s < 4; s++) {
            r.due("write(" + s + ", 0, 0)", Run.MISSING).due("sheet(" + s + ", " + new int[] {8, 16, 64, 8}[s] + ", 40)", 40);
            r.due("write(" + s + ", 39, 1)", 0).due("write(" + s + ", 40, 1)", Run.BEYOND);
        }
    }
}
