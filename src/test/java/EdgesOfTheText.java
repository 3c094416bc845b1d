/** The text of a dinner, each sentence by itself. */
final class EdgesOfTheText {
    private static final String EIGHT = "guest 0;guest 1;guest 2;guest 3;guest 4;guest 5;guest 6;guest 7";

    private EdgesOfTheText() {
    }

    static void ask() {
        tape();
        tokens();
        words();
        numbers();
        sign();
        blanks();
        items();
        guests();
        laying();
        layingPerhaps();
        changes();
        firstTokenThatCantStandThere();
        aNumberThatMayNotBe();
        anotherWord();
        aByteThatBeginsNoToken();
        aNinth();
        endsTooEarly();
    }

    private static Edge of(String words) {
        return Edge.of(Edge.TERMS, words);
    }

    private static void tape() {
        Run r = of("THE TEXT of a DINNER, from THE TAPE (bytes, at most 120).").run();
        r.feed("lay 3 heart" + " ".repeat(108)).due("count(1)", 119).due("feed(0, 2)", Run.FULL).due("feed(32, 1)", 120);
        r.due("feed(0, 1)", Run.FULL).due("count(1)", 120).due("dinner()", 1).due("place(3, 0)", 1).due("count(1)", 0);
    }

    private static void tokens() {
        Run r = of("TOKENS, each as long as can be:").run();
        r.dinner("lay 3 heartcross", -7).dinner("lay 3 hear", -7).dinner("layer 3", -1).dinner("lay 12", -5).dinner("lay 01", 1);
        r.dinner("guest 1;guest 2", 2).dinner("change 01", -10).dinner("change 0 1", 1).dinner("spoon 3", -1);
    }

    private static void words() {
        Run r = of("WORDS (letters a to z),").run().dinner("lay 3 hearta", -7).dinner("lay 3 heartz", -7);
        for (char sign : new char[] {'`', '{', '@', '[', 'A', 'Z', 'h' - 32, 'h' + 128}) {
            r.dinner("lay 3 heart" + sign, -12).dinner("lay 3 " + sign + "heart", -7);
        }
        r.dinner("lay 3 heart3", -12).due("place(3, 0)", 0);
    }

    private static void numbers() {
        Run r = of("NUMBERS (digits, 999 at most),").run();
        r.dinner("lay 0 spoon 9", 1).dinner("lay 9 spoon 0", 1).dinner("lay 3/", -6).dinner("lay 3:", -6).dinner("lay /", -5);
        r.dinner("lay 999", -5).dinner("lay 1000", -5).dinner("lay 1003", -5).dinner("lay 65539", -5).dinner("lay 4294967299", -5);
        r.dinner("lay 18446744073709551619", -5).dinner("lay " + "1".repeat(116), -5).dinner("lay 009", 1).dinner("lay -3", -5);
    }

    private static void sign() {
        Run r = of("SIGN ; ;").run().dinner("lay 3;lay 4", 2).dinner("lay 3:lay 4", -6).dinner("lay 3,lay 4", -6);
        r.dinner("lay 3<lay 4", -6).dinner("lay 3;;lay 4", -7).dinner("lay; 3", -4);
    }

    private static void blanks() {
        Run r = of("blanks may stand between.").run().dinner("lay3heart cross spoon4;lay4", 2).due("place(3, 2)", 4);
        r.dinner("  lay   5  heart  spoon   6  ;  lay  6  ", 2).due("place(5, 2)", 6).dinner("lay 1 1", -7).dinner("la y 1", -1);
        for (char sign : new char[] {0, 9, 10, 13, 31, 33, 160}) {
            r.dinner("lay" + sign + "3", -4);
        }
    }

    private static void items() {
        Run r = of("TEXT: ITEM { ; ITEM }.").run().dinner("lay 3", 1).dinner("lay 3;lay 3", 2).dinner("", -1).dinner(";", -1);
        r.dinner("lay 3;", -7).dinner(";lay 3", -1).dinner("lay 3 lay 3", -7);
        r.dinner("lay3" + ";lay3".repeat(23), 24).dinner("lay3" + ";lay3".repeat(23) + ";", -121);
    }

    private static void guests() {
        Edge e = of("ITEM: the name of a KIND (guest bishop lady envoy cardinal bride), a NUMBER (a PLACE with nobody AT it): one more;");
        String[] names = {"guest", "bishop", "lady", "envoy", "cardinal", "bride"};
        for (int kind = 0; kind < 6; kind++) {
            Run r = e.run().dinner(names[kind] + " 0", 1).due("of(0, 0)", kind).due("place(0, 3)", 0);
            r.dinner(names[kind] + " 9", 1).due("of(1, 0)", kind).due("place(9, 3)", 1).due("of(1, 2)", 100);
            r.dinner(names[kind] + " 10", -names[kind].length() - 2).dinner(names[kind] + " 0", -names[kind].length() - 2);
            r.dinner(names[kind] + " 5;" + names[kind] + " 5", -2 * names[kind].length() - 5).due("count(0)", 2);
        }
        Run left = e.run().after("guest(0, 0)", "guest(0, 5)").dinner("change 0 1;guest 0", -18).after("seat(0, 9)");
        left.dinner("guest 9", -7).dinner("guest 0", 1).due("place(0, 3)", 2);
    }

    private static void laying() {
        Run r = of("lay, a NUMBER (a PLACE),").run().after("guest(0, 0)").dinner("lay 0 heart", 1).due("place(0, 0)", 1);
        r.dinner("lay 9 heart", 1).due("place(9, 0)", 1).dinner("lay 10 heart", -5).dinner("lay heart", -5).dinner("lay ;", -5);
    }

    private static void layingPerhaps() {
        Run r = of("then perhaps heart (KNIFE in; else out), perhaps cross (FORK crossed; else straight), "
            + "perhaps spoon and a NUMBER (0 to 9; else 0): it is laid just so;").run();
        for (int way = 0; way < 8; way++) {
            int spoon = way < 4 ? 0 : 9;
            r.after("lay(7, 0, " + (1 - way % 2) + ")", "lay(7, 1, " + (1 - way / 2 % 2) + ")", "lay(7, 2, 5)");
            r.dinner("lay 7" + (way % 2 == 1 ? " heart" : "") + (way / 2 % 2 == 1 ? " cross" : "") + (way < 4 ? "" : " spoon 9"), 1);
            r.due("place(7, 0)", way % 2).due("place(7, 1)", way / 2 % 2).due("place(7, 2)", spoon);
        }
        r.dinner("lay 7 spoon 0", 1).due("place(7, 2)", 0).dinner("lay 7 spoon 10", -13).dinner("lay 7 spoon", -12);
        r.dinner("lay 7 cross heart", -13).dinner("lay 7 spoon 1 cross", -15).dinner("lay 7 heart heart", -13);
        r.dinner("lay 7 cross cross", -13).dinner("lay 7 spoon 1 spoon 1", -15).dinner("lay 7 spoon 1 heart", -15);
    }

    private static void changes() {
        Run r = of("change, two NUMBERS (GUESTS there by then, unlike): they change PLACES.").run();
        r.dinner("change 0 1", -8).dinner("guest 0;change 0 1", -18).dinner("guest 0;change 0 0", -18).dinner("guest 0;change 1 0", -16);
        r.dinner("change 0 1;guest 0;guest 9", -8).dinner("guest 0;guest 9;change 0 1", 3).due("of(0, 1)", 9).due("of(1, 1)", 0);
        r.dinner("change 1 0", 1).due("of(0, 1)", 0).dinner("change 1 1", -10).dinner("change 0 2", -10).dinner("change 2 0", -8);
        Run eight = r.dinner("guest 1;guest 2;guest 3;guest 4;guest 5;guest 6", 6).dinner("change 7 0", 1).due("of(7, 1)", 0);
        eight.dinner("change 8 0", -8).dinner("change 0 8", -10).dinner("change 7 7", -10);
    }

    private static void firstTokenThatCantStandThere() {
        Run r = of("FAULT: the place (from 0) of the first byte of the first TOKEN that can't stand there (").run();
        r.dinner("heart", -1).dinner("   heart", -4).dinner("lay 99 ? heart", -5).dinner("lay 3 guest ?", -7);
        r.dinner("lay 3;lay 4;lay 5;guest 6;guest 6", -33).dinner(" ".repeat(119) + "3", -120).dinner("lay   heart", -7);
    }

    private static void aNumberThatMayNotBe() {
        Run r = of("a NUMBER that may not be,").run().after("guest(0, 4)");
        r.dinner("lay 10", -5).dinner("guest 4", -7).dinner("lay 3 spoon 10", -13).dinner("change 1 0", -8).dinner("change 0 0", -10);
        r.dinner("3", -1).dinner("lay 3 3", -7).dinner("guest 3 3", -9).dinner("lay 3;3", -7).dinner("lay 3 heart 3", -13);
    }

    private static void anotherWord() {
        Run r = of("another WORD,").run().dinner("host 3", -1).dinner("cross", -1).dinner("guest lay", -7).dinner("lay spoon 3", -5);
        r.dinner("lay 3 bride 4", -7).dinner("lay 3;heart", -7).dinner("lay 3 spoon nine", -13).dinner("change zero one", -8);
        r.dinner("gues 3", -1).dinner("guestt 3", -1).dinner("brides 3", -1).dinner("cardina 3", -1).dinner("huest 3", -1);
        r.dinner("guesu 3", -1).dinner("may 3", -1).dinner("lay 3 beart", -7).dinner("lay 3 dross", -7).dinner("lay 3 ppoon 4", -7);
        r.after("guest(0, 0)", "guest(0, 1)").dinner("dhange 0 1", -1).due("of(0, 1)", 0);
    }

    private static void aByteThatBeginsNoToken() {
        Edge e = of("a byte that begins no TOKEN,");
        for (int b = 0; b < 256; b++) {
            boolean begins = b >= 'a' && b <= 'z' || b >= '0' && b <= '9' || b == ';' || b == ' ';
            if (!begins) {
                e.run().dinner("lay 3" + (char) b, -6).dinner((char) b + "lay 3", -1).dinner("lay " + (char) b + "3", -5);
            }
        }
    }

    private static void aNinth() {
        Run r = of("the name of a KIND for a 9th: its own),").run().dinner(EIGHT + ";bride 8", -65).due("count(0)", 0);
        r.dinner(EIGHT, 8).dinner("bride 8", -1).dinner("  bride 8", -3).dinner("bride", -1).dinner("bride 0", -1);
        r.dinner("lay 8;envoy 8", -7).due("count(0)", 8).due("place(8, 3)", -1);
    }

    private static void endsTooEarly() {
        Run r = of("or how many bytes there are if it ends too early.").run().dinner("", -1).dinner("  ", -3).dinner("guest", -6);
        r.dinner("lay ", -5).dinner("lay 3;", -7).dinner("lay 3; ", -8).dinner("lay 3 spoon", -12).dinner("lay 3 cross spoon  ", -20);
        r.after("guest(0, 0)").dinner("change", -7).dinner("change 0", -9).dinner("change 0 ", -10).dinner(" ".repeat(120), -121);
    }
}
