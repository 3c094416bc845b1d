/** Promises 24 to 26: the tape, and the text of a dinner. */
public final class TextTest {
    public static void main(String[] args) {
        feed();
        feedFull();
        wipe();
        kinds();
        laying();
        changes();
        blanksAndTokens();
        numbers();
        faultsOfGuests();
        faultsOfLaying();
        faultsOfChanges();
        faultsOfSigns();
        theNinth();
        faultsChangeNothing();
        whatWasThereIsGone();
        theLongest();
        Run.end();
    }

    private static void feed() {
        Run r = new Run("24, feed");
        r.due("feed(1818327328, 4)", 4).due("feed(55, 1)", 5).due("feed(2126537574, 2)", 7);
        r.due("count(1)", 7).due("feed(0, 0)", Run.BEYOND).due("feed(0, 5)", Run.BEYOND).due("feed(0, -1)", Run.BEYOND);
        r.due("count(1)", 7).due("wipe()", 7).due("status(0)", 3);
        // "lay 7 heart", by four, three, two and one.
        r.due("feed(1818327328, 4)", 4).due("feed(3612776, 3)", 7).due("feed(25953, 2)", 9);
        r.due("feed(2147447410, 1)", 10).due("feed(-140, 1)", 11).due("dinner()", 1).due("place(7, 0)", 1);
        r.due("feed(-1, 4)", 4).due("dinner()", -1);
    }

    private static void feedFull() {
        Run r = new Run("24, feed, full");
        for (int i = 1; i <= 29; i++) {
            r.due("feed(538976288, 4)", 4 * i);
        }
        r.due("feed(538976288, 2)", 118).due("feed(0, 3)", Run.FULL).due("feed(0, 4)", Run.FULL).due("feed(0, 5)", Run.BEYOND);
        r.due("count(1)", 118).due("feed(8224, 2)", 120).due("feed(0, 1)", Run.FULL).due("feed(0, 0)", Run.BEYOND);
        r.due("status(1)", 3).due("status(0)", 2).due("dinner()", -121).due("feed(0, 1)", 1);
    }

    private static void wipe() {
        Run r = new Run("25, wipe");
        r.due("wipe()", 0).after("guest(0, 0)").feed("lay 3").due("wipe()", 5).due("count(1)", 0).due("wipe()", 0);
        r.dinner("guest 4", 1).due("count(0)", 2).due("status(-1)", 0);
    }

    private static void kinds() {
        Run r = new Run("26, kinds");
        r.dinner("guest 3", 1).dinner("bishop 0; lady 9", 2).dinner("envoy 1;cardinal 2;bride 4", 3).due("count(0)", 6);
        int[] places = {3, 0, 9, 1, 2, 4};
        for (int g = 0; g < 6; g++) {
            r.due("of(" + g + ", 0)", g).due("of(" + g + ", 1)", places[g]).due("place(" + places[g] + ", 3)", g);
            r.due("of(" + g + ", 2)", 100).due("of(" + g + ", 3)", 0).due("of(" + g + ", 4)", 0);
        }
        r.due("now(0)", 0).due("status(-1)", 0);
    }

    private static void laying() {
        laying("lay 4 heart cross spoon 7", 1, 1, 7);
        laying("lay 4 heart cross", 1, 1, 0);
        laying("lay 4 heart spoon 9", 1, 0, 9);
        laying("lay 4 cross spoon 1", 0, 1, 1);
        laying("lay 4 heart", 1, 0, 0);
        laying("lay 4 cross", 0, 1, 0);
        laying("lay 4 spoon 5", 0, 0, 5);
        laying("lay 4 spoon 0", 0, 0, 0);
        laying("lay 4", 0, 0, 0);
        laying("lay 4 heart; lay 4 cross", 0, 1, 0);
    }

    private static void laying(String text, int knife, int fork, int spoon) {
        Run r = new Run("26, laying");
        r.after("lay(4, 0, " + (1 - knife) + ")", "lay(4, 1, " + (1 - fork) + ")", "lay(4, 2, 8)");
        r.after("lay(3, 0, 1)", "lay(3, 1, 1)", "lay(3, 2, 2)", "guest(0, 4)");
        r.dinner(text, text.indexOf(';') < 0 ? 1 : 2);
        r.due("place(4, 0)", knife).due("place(4, 1)", fork).due("place(4, 2)", spoon).due("place(4, 3)", 0);
        r.due("place(3, 0)", 1).due("place(3, 1)", 1).due("place(3, 2)", 2);
    }

    private static void changes() {
        Run r = new Run("26, changes");
        r.dinner("guest 0; lady 5; bride 7", 3).after("set(0, 2, 9)");
        r.dinner("change 0 2", 1).due("of(0, 1)", 7).due("of(2, 1)", 0).due("place(7, 3)", 0).due("place(0, 3)", 2);
        r.dinner("change 2 1; change 1 0", 2).due("of(2, 1)", 5).due("of(1, 1)", 7).due("of(0, 1)", 0);
        r.due("of(0, 2)", 109).due("of(0, 0)", 0).due("of(2, 0)", 5);
        r.dinner("envoy 9; change 3 0", 2).due("of(3, 1)", 0).due("of(0, 1)", 9);
    }

    private static void blanksAndTokens() {
        Run r = new Run("26, blanks and tokens");
        r.dinner("   guest   3   ;   lay   4   heart   spoon   6   ", 2).due("place(3, 3)", 0).due("place(4, 2)", 6);
        r.dinner("lady9;lay5heart cross spoon7;change1 0", 3).due("place(5, 2)", 7).due("of(1, 1)", 3);
        r.dinner("lay5heartcross", -5).dinner("guestlady 1", -1).dinner("laylay 1", -1).dinner("lay1lay", -5);
        r.dinner("lay 1heart", 1).dinner("change01", -9).due("status(-1)", 0);
    }

    private static void numbers() {
        Run r = new Run("26, numbers");
        r.dinner("lay 003 spoon 0009", 1).due("place(3, 2)", 9).dinner("lay 0000000000000000000003 heart", 1);
        r.due("place(3, 0)", 1).due("place(3, 2)", 0);
        r.dinner("lay 10", -5).dinner("lay 999", -5).dinner("lay 1000", -5).dinner("lay 4294967299", -5);
        r.dinner("lay 18446744073709551619", -5).dinner("lay 10000000000000000000000000000000000003", -5);
        r.dinner("lay 3 spoon 10", -13).dinner("lay 3 spoon 4294967297", -13).dinner("guest 4294967296", -7);
    }

    private static void faultsOfGuests() {
        Run r = new Run("26, faults of guests");
        r.dinner("guest", -6).dinner("guest ", -7).dinner("guest 10", -7).dinner("guest x", -7).dinner("guest guest", -7);
        r.dinner("guest ;", -7).dinner("guests 3", -1).dinner("gues 3", -1).dinner("Guest 3", -1).dinner("heart", -1);
        r.dinner("guest 3; lady 3", -15).dinner("guest 3 4", -9).dinner("guest 3 guest 4", -9).dinner("guest 3 heart", -9);
        r.dinner("huest 3", -1).dinner("guesx 3", -1).dinner("may 3", -1).dinner("layz 3", -1).dinner("alay 3", -1);
        r.dinner("host 1", -1).dinner("guest 1; host 2", -10).due("count(0)", 0);
        r.after("guest(0, 5)").dinner("guest 5", -7).dinner("guest 6", 1).due("count(0)", 2).due("status(-1)", 0);
    }

    private static void faultsOfLaying() {
        Run r = new Run("26, faults of laying");
        r.dinner("lay", -4).dinner("lay  ", -6).dinner("lay heart", -5).dinner("lay 3 4", -7).dinner("lay 3 lay", -7);
        r.dinner("lay 3 heart heart", -13).dinner("lay 3 cross heart", -13).dinner("lay 3 cross cross", -13);
        r.dinner("lay 3 spoon", -12).dinner("lay 3 spoon ;", -13).dinner("lay 3 spoon heart", -13);
        r.dinner("lay 3 spoon 4 cross", -15).dinner("lay 3 spoon 4 heart", -15).dinner("lay 3 spoon 4 5", -15);
        r.dinner("lay 3 spoon 4 spoon 5", -15).dinner("lay 3 hearts", -7).dinner("lay 3 guest 4", -7);
        r.due("count(3)", 0).due("place(3, 0)", 0).due("place(3, 1)", 0).due("status(-1)", 0);
    }

    private static void faultsOfChanges() {
        Run r = new Run("26, faults of changes");
        r.dinner("change", -7).dinner("change 0", -8).dinner("change 0 1", -8).after("guest(0, 4)");
        r.dinner("change 0", -9).dinner("change 0 0", -10).dinner("change 0 1", -10).dinner("change 1 0", -8);
        r.dinner("change 0 ; guest 1", -10).dinner("guest 1; change 0 2", -19).dinner("change 0 1; guest 1", -10);
        r.dinner("guest 1; change 0 1 2", -21).dinner("guest 1; change 0 lady", -19).dinner("change guest", -8);
        r.due("count(0)", 1).due("of(0, 1)", 4).dinner("guest 1; change 0 1", 2).due("of(0, 1)", 1).due("of(1, 1)", 4);
    }

    private static void faultsOfSigns() {
        Run r = new Run("26, faults of signs");
        r.dinner("", -1).dinner("   ", -4).dinner(";", -1).dinner(" ;", -2).dinner("lay 3;", -7).dinner("lay 3; ", -8);
        r.dinner("lay 3;;lay 4", -7).dinner("3", -1).dinner(";lay 3", -1).dinner("lay 3 ; 4", -9);
        for (char sign : new char[] {0, 9, 10, 13, 31, 33, '/', ':', '<', ',', 'A', 'Z', '`', '{', 127, 160, 233, 255}) {
            r.dinner("lay 3" + sign, -6).dinner(sign + "lay 3", -1).dinner("l" + sign + "ay 3", -1);
            r.dinner("lay " + sign, -5).dinner("lay 3; " + sign, -8).dinner("lay 3 spoon" + sign + "4", -12);
        }
        r.due("status(-1)", 0);
    }

    private static void theNinth() {
        Run r = new Run("26, the ninth");
        r.dinner("guest 0;guest 1;guest 2;guest 3;guest 4;guest 5;guest 6;lady 7;bride 8", -64).due("count(0)", 0);
        r.dinner("guest 0;guest 1;guest 2;guest 3;guest 4;guest 5;guest 6;lady 7", 8).due("count(0)", 8);
        r.dinner("guest 9", -1).dinner("guest", -1).dinner("  bride 0", -3).dinner("lay 1;envoy 9", -7);
        r.dinner("lay 1;change 0 7", 2).due("of(0, 1)", 7).due("status(-1)", 0).due("guest(0, 9)", Run.FULL);
    }

    private static void faultsChangeNothing() {
        Run r = new Run("26, faults change nothing");
        r.after("guest(0, 1)", "guest(1, 2)", "set(0, 2, 5)", "lay(1, 2, 3)", "courses(2)");
        r.dinner("lay 1 heart; change 0 1; bride 5; lay 5 cross; oh", -48);
        r.due("place(1, 0)", 0).due("place(1, 2)", 3).due("of(0, 1)", 1).due("of(1, 1)", 2).due("place(1, 3)", 0);
        r.due("place(5, 3)", -1).due("place(5, 1)", 0).due("count(0)", 2).due("now(0)", 2).due("of(0, 2)", 109);
        r.due("status(-1)", 0);
    }

    private static void whatWasThereIsGone() {
        Run r = new Run("26, what was there is gone");
        r.dinner("lay 4 heartsss", -7).dinner("lay 4 heart", 1).due("place(4, 0)", 1).dinner("lay 44", -5).dinner("lay 4", 1);
        r.feed("guest 3; lady 5").after("wipe()").dinner("guest 3", 1).due("count(0)", 1);
    }

    private static void theLongest() {
        StringBuilder text = new StringBuilder();
        while (text.length() < 114) {
            text.append("lay3;lay4;");
        }
        text.setLength(115);
        new Run("26, the longest").dinner(text + "lay 5", 24);
        String toHeart = text.substring(0, 105) + "     lay5 heart";
        new Run("26, the longest, with a word last").dinner(toHeart, 22).due("place(5, 0)", 1);
        new Run("26, the longest, too early").dinner(text + "lay5;", -121);
    }
}
