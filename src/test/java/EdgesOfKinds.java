/** What the kinds feel, catch, tell and are sore at, each sentence by itself, where it changes over. */
final class EdgesOfKinds {
    private static final int FULLY = 99;

    private EdgesOfKinds() {
    }

    static void ask() {
        guestFeels();
        bishopFeels();
        ladyFeels();
        envoyFeels();
        cardinalFeels();
        brideFeels();
        guestCatches();
        bishopCatches();
        ladyCatches();
        envoyCatches();
        cardinalCatches();
        brideCatches();
        guestTells();
        bishopTells();
        ladyTells();
        envoyTells();
        cardinalTells();
        brideTells();
        sore();
    }

    private static Edge of(String words) {
        return Edge.of(Edge.TERMS, words);
    }

    /** What a kind at place 0 feels with k, f and s laid there and n neighbours. */
    private static void feels(Edge e, int kind, int[] laid, int n, int want) {
        Run r = e.run().after("guest(" + kind + ", 0)");
        for (int what = 0; what < 3; what++) {
            r.after("lay(0, " + what + ", " + laid[what] + ")");
        }
        for (int i = 0; i < n; i++) {
            r.after("guest(3, " + (i == 0 ? 9 : 1) + ")");
        }
        r.due("of(0, 5)", 100 + want);
    }

    private static int[] laid(int k, int f, int s) {
        return new int[] {k, f, s};
    }

    private static void guestFeels() {
        Edge.passes(Edge.TERMS, "FEELS (EASE more in a course; k, f, s being its KNIFE, FORK and SPOON; n: how many NEIGHBOURS it has):");
        Edge e = of("GUEST: 2, if k is 0, else -3; and -4, if f is 1.");
        feels(e, 0, laid(0, 0, 0), 0, 2);
        feels(e, 0, laid(0, 0, 9), 2, 2);
        feels(e, 0, laid(1, 0, 0), 0, -3);
        feels(e, 0, laid(0, 1, 0), 1, -2);
        feels(e, 0, laid(1, 1, 9), 2, -7);
    }

    private static void bishopFeels() {
        Edge e = of("BISHOP: as GUEST, less s.");
        feels(e, 1, laid(0, 0, 0), 0, 2);
        feels(e, 1, laid(0, 0, 1), 2, 1);
        feels(e, 1, laid(0, 0, 9), 0, -7);
        feels(e, 1, laid(1, 1, 9), 2, -16);
    }

    private static void ladyFeels() {
        Edge e = of("LADY: as GUEST, and n.");
        feels(e, 2, laid(0, 0, 9), 0, 2);
        feels(e, 2, laid(0, 0, 0), 1, 3);
        feels(e, 2, laid(0, 0, 0), 2, 4);
        feels(e, 2, laid(1, 1, 0), 2, -5);
        feels(e, 2, laid(1, 1, 0), 0, -7);
    }

    private static void envoyFeels() {
        Edge e = of("ENVOY: 1, if k, f and s are all 0; else -2 times n.");
        for (int n = 0; n <= 2; n++) {
            feels(e, 3, laid(0, 0, 0), n, 1);
            feels(e, 3, laid(1, 0, 0), n, -2 * n);
            feels(e, 3, laid(0, 1, 0), n, -2 * n);
            feels(e, 3, laid(0, 0, 1), n, -2 * n);
            feels(e, 3, laid(1, 1, 9), n, -2 * n);
        }
    }

    private static void cardinalFeels() {
        Edge e = of("CARDINAL: as BISHOP, twice that, if n is 2.");
        feels(e, 4, laid(0, 0, 0), 0, 2);
        feels(e, 4, laid(0, 0, 0), 1, 2);
        feels(e, 4, laid(0, 0, 0), 2, 4);
        feels(e, 4, laid(0, 0, 2), 2, 0);
        feels(e, 4, laid(0, 0, 3), 2, -2);
        feels(e, 4, laid(1, 1, 9), 1, -16);
        feels(e, 4, laid(1, 1, 9), 2, -32);
    }

    private static void brideFeels() {
        Edge e = of("BRIDE: as LADY, but -9, if f is 1.");
        for (int n = 0; n <= 2; n++) {
            feels(e, 5, laid(0, 0, 9), n, 2 + n);
            feels(e, 5, laid(1, 0, 0), n, -3 + n);
            feels(e, 5, laid(0, 1, 0), n, -9);
            feels(e, 5, laid(1, 1, 9), n, -9);
        }
    }

    /** What a kind at place 9 catches of each way in which places 8 and 0 can be laid, with one there and with two. */
    private static void catches(Edge e, int kind, int... want) {
        for (int way = 0; way < 4; way++) {
            Run r = e.run().after("guest(" + kind + ", 9)", "lay(9, 0, 1)", "lay(9, 1, 1)", "lay(0, 2, 9)");
            for (int place : new int[] {8, 0}) {
                r.after("lay(" + place + ", 0, " + (way & 1) + ")", "lay(" + place + ", 1, " + way / 2 + ")");
            }
            r.due("of(0, 6)", 100).after("guest(0, 0)").due("of(0, 6)", 100 + want[way]);
            r.after("guest(0, 8)").due("of(0, 6)", 100 + 2 * want[way]);
        }
    }

    private static void guestCatches() {
        Edge.passes(Edge.TERMS, "CATCHES (EASE more by what is laid at a NEIGHBOUR's PLACE, of each; k, f: that KNIFE, that FORK):");
        catches(of("GUEST: -1, if k is 1, else 0."), 0, 0, -1, 0, -1);
    }

    private static void bishopCatches() {
        catches(of("BISHOP: 0."), 1, 0, 0, 0, 0);
    }

    private static void ladyCatches() {
        catches(of("LADY: as GUEST, and 1, if f is 0."), 2, 1, 0, 0, -1);
    }

    private static void envoyCatches() {
        catches(of("ENVOY: -3, if f is 1, else 0."), 3, 0, 0, -3, -3);
    }

    private static void cardinalCatches() {
        catches(of("CARDINAL: as BISHOP. BRIDE: as LADY, twice that."), 4, 0, 0, 0, 0);
    }

    private static void brideCatches() {
        catches(of("BRIDE: as LADY, twice that."), 5, 2, 0, 0, -2);
    }

    /** Whether a kind tells with s hairs and an ease, now and in a course that goes. */
    private static void tells(Edge e, int kind, int s, int ease, boolean want) {
        Run r = e.run().after("guest(" + kind + ", 3)", "lay(3, 2, " + s + ")", "set(0, 2, " + ease + ")");
        r.due("now(2)", want ? 1 : 0).after("courses(1)").due("of(0, 3)", want ? 1 : 0);
    }

    private static void guestTells() {
        Edge.passes(Edge.TERMS, "TELLS (whether it tells a thing in a course, EASE being e as the course begins):");
        Edge e = of("GUEST: if e is 20 or more.");
        tells(e, 0, 9, 19, false);
        tells(e, 0, 0, 20, true);
        tells(e, 0, 0, FULLY, true);
    }

    private static void bishopTells() {
        Edge e = of("BISHOP: if s is above 0.");
        tells(e, 1, 0, FULLY, false);
        tells(e, 1, 1, -FULLY, true);
        tells(e, 1, 9, FULLY, true);
    }

    private static void ladyTells() {
        Edge e = of("LADY: as GUEST. ENVOY: never.");
        tells(e, 2, 9, 19, false);
        tells(e, 2, 0, 20, true);
    }

    private static void envoyTells() {
        Edge e = of("ENVOY: never.");
        tells(e, 3, 9, FULLY, false);
        tells(e, 3, 9, -FULLY, false);
        tells(e, 3, 0, 20, false);
    }

    private static void cardinalTells() {
        Edge e = of("CARDINAL: as BISHOP, and e is below 0.");
        tells(e, 4, 1, -1, true);
        tells(e, 4, 1, 0, false);
        tells(e, 4, 0, -1, false);
        tells(e, 4, 9, FULLY, false);
    }

    private static void brideTells() {
        Edge e = of("BRIDE: as LADY, but from 5 on.");
        tells(e, 5, 9, 4, false);
        tells(e, 5, 0, 5, true);
        tells(e, 5, 0, FULLY, true);
    }

    private static void sore() {
        Edge.passes(Edge.TERMS, "SORE (EASE below which it quarrels):", "(Others as the KIND above.)");
        String[] words = {
            "GUEST: -20.", "BISHOP: as GUEST, less 30.", "LADY: -15.", "ENVOY: as GUEST, and 10.",
            "CARDINAL: as BISHOP. BRIDE: as LADY, and 10.", "BRIDE: as LADY, and 10."};
        int[] below = {-20, -50, -15, -10, -50, -5};
        for (int kind = 0; kind < 6; kind++) {
            Run r = of(words[kind]).run().after("guest(" + kind + ", 1)").due("of(0, 7)", 100 + below[kind]);
            r.after("set(0, 2, " + below[kind] + ")").due("now(3)", 0).due("now(1)", 1);
            r.after("set(0, 2, " + (below[kind] - 1) + ")").due("now(3)", 1).due("now(1)", 0);
        }
    }
}
