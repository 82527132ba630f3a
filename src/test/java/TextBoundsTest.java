/** Promises 2 to 4 at their bounds: how many letters, what a text may be, FAULT in each of its cases. */
public final class TextBoundsTest {
    private static final int BAD = DanceStaffs.BAD, FULL = DanceStaffs.FULL;
    private static final String TEN = "..........", ITEM = "d0 0 0;", FULL_ITEM = "d6 6 7" + TEN + ";";

    public static void main(String[] args) {
        letters();
        hundredLetters();
        cleared();
        blanks();
        noText();
        items();
        dancers();
        signs();
        whatCanStand();
        aFourthDancer();
        anEleventhSign();
        numbersBeyond();
        otherLetters();
        longNumbers();
        endsTooEarly();
        theFirstOfSeveral();
        readAnew();
        Checks.end();
    }

    private static void fault(String text, int place) {
        Checks.due("dance() of '" + text + "'", Checks.danced(text), -10 - place);
    }

    private static void reads(String text, int items) {
        Checks.due("dance() of '" + text + "'", Checks.danced(text), items);
    }

    // ---- THE TEXT

    private static void letters() {
        Checks.sentence("A letter (0 .. 255) comes to THE TEXT: how many it has. BAD");
        for (int letter : Call.row(-1, 256, 257, 512, -256, Integer.MIN_VALUE, Integer.MAX_VALUE)) {
            DanceStaffs x = new DanceStaffs();
            Checks.due("type(" + letter + ")", x.type(letter), BAD);
            Checks.due("letters behind type(" + letter + ")", x.count(5), 0);
        }
        DanceStaffs x = new DanceStaffs();
        for (int letter = 0; letter <= 255; letter++) {
            Checks.due("type(" + letter + ")", x.type(letter), letter % 100 + 1);
            if (letter % 100 == 99) {
                Checks.due("clear()", x.clear(), 100);
            }
        }
    }

    private static void hundredLetters() {
        Checks.sentence("FULL: 100.");
        DanceStaffs x = new DanceStaffs();
        for (int i = 1; i <= 99; i++) {
            Checks.due("letter " + i, x.type(' '), i);
        }
        Checks.due("the hundredth", x.type('d'), 100);
        Checks.due("the hundred and first", x.type('d'), FULL);
        Checks.due("still", x.type(' '), FULL);
        Checks.due("BAD ahead of FULL", x.type(256), BAD);
        Checks.due("BAD ahead of FULL", x.type(-1), BAD);
        Checks.due("count(5)", x.count(5), 100);
        Checks.sentence("They are a text (100 letters at most)");
        Checks.due("the hundredth ends it too early", x.dance(), -110);
        Checks.due("clear()", x.clear(), 100);
        Checks.due("the first again", x.type(' '), 1);
        reads(" ".repeat(93) + ITEM, 1);
        fault(" ".repeat(93) + "d0 0 0x", 99);
        reads(" ".repeat(100), 0);
        String most = "d 6 6 7 l7r7l7r7l7r7l7r7l7r7;d6 6 7j7j7j7j7j7j7j7j7j7j7;d6 6 7t7t7t7t7t7t7t7t7t7t7;";
        reads(most + " ".repeat(100 - most.length()), 3);
    }

    private static void cleared() {
        Checks.sentence("THE TEXT is empty: how many letters it had.");
        DanceStaffs x = new DanceStaffs();
        Checks.due("clear() of none", x.clear(), 0);
        x.type(0);
        Checks.due("clear() of one", x.clear(), 1);
        Checks.due("clear() again", x.clear(), 0);
        Checks.type(x, ITEM + ITEM);
        Checks.due("clear() of all", x.clear(), 14);
        Checks.due("nothing is left of it", x.dance(), 0);
    }

    private static void blanks() {
        Checks.sentence("blanks (32) between TOKENS");
        reads("d6 6 7l7;", 1);
        reads("d 6 6 7 l 7 ;", 1);
        reads("   d   6   6   7   l   7   ;   ", 1);
        fault("d66 7l7;", 1);
        fault("d6 67l7;", 3);
        for (int letter : Call.row(0, 9, 10, 13, 31, 33, 127, 160, 255)) {
            fault("d6 6 7" + (char) letter + "l7;", 6);
            fault((char) letter + ITEM, 0);
            fault(ITEM + (char) letter, 7);
        }
    }

    private static void noText() {
        Checks.sentence("how many ITEMS");
        reads("", 0);
        reads(" ", 0);
        DanceStaffs x = Checks.told(ITEM + ITEM);
        Checks.due("dance() without a letter tells that there are none", x.dance(), 0);
        Checks.due("dancers", x.count(0), 0);
    }

    private static void items() {
        Checks.sentence("ITEMS, each ended by ;");
        reads(ITEM, 1);
        fault("d0 0 0", 6);
        fault("d0 0 0d0 0 0;", 6);
        fault(ITEM + ";", 7);
        fault(";" + ITEM, 0);
        fault(ITEM + ITEM + "d0 0 0", 20);
    }

    private static void dancers() {
        Checks.sentence("DANCERS 0, 1, .. (3 at most)");
        for (int dancers = 0; dancers <= 3; dancers++) {
            DanceStaffs x = new DanceStaffs();
            Checks.type(x, ITEM.repeat(dancers));
            Checks.due(dancers + " items", x.dance(), dancers);
            Checks.due(dancers + " dancers", x.count(0), dancers);
            for (int d = -1; d <= 3; d++) {
                int want = d >= 0 && d < dancers ? 0 : BAD;
                Checks.due("staff(" + d + ", 0) of " + dancers, x.staff(d, 0), want);
            }
        }
    }

    private static void signs() {
        Checks.sentence("A STAFF has 0 to 10 SIGNS");
        for (int signs = 0; signs <= 10; signs++) {
            DanceStaffs x = Checks.told("d0 0 0" + TEN.substring(0, signs) + ";d0 0 0;" + FULL_ITEM);
            Checks.due("signs", x.staff(0, 0), signs);
            Checks.due("of the next one", x.staff(1, 0), 0);
            Checks.due("of the last one", x.staff(2, 0), 10);
        }
    }

    // ---- FAULT

    /** Behind each beginning every letter and every number that can be told, and those that can stand there. */
    private static void whatCanStand() {
        Checks.sentence("FAULT: the place of the first letter of the first TOKEN that can't stand there");
        canStand("", "d", 0, -1);
        canStand("d", "", 0, 6);
        canStand("d0 ", "", 0, 6);
        canStand("d0 0 ", "", 0, 7);
        canStand("d0 0 0 ", "clrjt.;", 0, -1);
        canStand("d0 0 0c", "clrjt.;", 0, -1);
        canStand("d0 0 0l", "", 0, 7);
        canStand("d0 0 0r", "", 0, 7);
        canStand("d0 0 0j", "", 0, 7);
        canStand("d0 0 0t", "", 1, 7);
        canStand("d0 0 0l7 ", "clrjt.;", 0, -1);
        canStand("d0 0 0.........", "clrjt.;", 0, -1);
        canStand("d0 0 0" + TEN, ";", 0, -1);
        canStand("d0 0 0.........l7 ", ";", 0, -1);
        canStand(ITEM, "d", 0, -1);
        canStand(ITEM + FULL_ITEM, "d", 0, -1);
        canStand(ITEM + ITEM + ITEM, "", 0, -1);
    }

    private static void canStand(String ahead, String letters, int least, int most) {
        for (int letter = 0; letter <= 255; letter++) {
            boolean isDigit = letter >= '0' && letter <= '9';
            boolean stands = letters.indexOf(letter) >= 0
                || isDigit && letter - '0' >= least && letter - '0' <= most;
            if (letter != ' ') {
                oneToken(ahead, String.valueOf((char) letter), stands);
            }
        }
        for (String number : new String[] {"00", "01", "07", "10", "12", "70", "99", "100", "007", "4294967296"}) {
            oneToken(ahead, number, false);
        }
    }

    private static void oneToken(String ahead, String token, boolean stands) {
        String text = ahead + token;
        int answer = Checks.danced(text);
        boolean isWhole = token.equals(";") && stands;
        Checks.due("dance() of '" + text + "'", answer > 0 ? 1 : answer,
            isWhole ? 1 : -10 - (stands ? text.length() : ahead.length()));
        if (!stands) {
            // What is behind the first such token does not matter, nor do blanks ahead of it.
            fault(text + "x", ahead.length());
            fault(text + " ;", ahead.length());
            fault(ahead + "  " + token, ahead.length() + 2);
        }
    }

    private static void aFourthDancer() {
        Checks.sentence("a fourth d");
        fault(ITEM + ITEM + ITEM + ITEM, 21);
        fault(ITEM + ITEM + ITEM + "d", 21);
        fault(ITEM + ITEM + ITEM + "  d0 0 0;", 23);
        fault(FULL_ITEM + FULL_ITEM + FULL_ITEM + FULL_ITEM, 51);
        reads(ITEM + ITEM + ITEM + "  ", 3);
    }

    private static void anEleventhSign() {
        Checks.sentence("an eleventh SIGN");
        for (String sign : new String[] {".", "c", "l0", "r7", "j0", "t1", "l", "t", "l9", "t0"}) {
            fault("d0 0 0" + TEN + sign + ";", 16);
            fault("d0 0 0" + TEN + "  " + sign, 18);
            fault(ITEM + ITEM + "d0 0 0" + TEN + sign + ";", 30);
        }
        reads("d0 0 0" + TEN + ";", 1);
        reads("d0 0 0l0l0l0l0l0l0l0l0l0l0;", 1);
        fault("d0 0 0l0l0l0l0l0l0l0l0l0l0l0;", 26);
    }

    private static void numbersBeyond() {
        Checks.sentence("a NUMBER beyond what it may be");
        for (int number = 7; number <= 9; number++) {
            fault("d" + number + " 0 0;", 1);
            fault("d 0 " + number + " 0;", 4);
        }
        for (int number = 8; number <= 9; number++) {
            fault("d0 0 " + number + ";", 5);
            for (char letter : "lrjt".toCharArray()) {
                fault("d0 0 0" + letter + number + ";", 7);
                fault("d0 0 0" + letter + " " + number + ";", 8);
            }
        }
        Checks.sentence("t N (TURN by N, 1 .. 7)");
        fault("d0 0 0t0;", 7);
        reads("d6 6 7l0l7r0r7j0j7t1t7;", 1);
    }

    private static void otherLetters() {
        Checks.sentence("of any other letter .. that TOKEN's");
        for (int letter = 0; letter <= 255; letter++) {
            if ("dclrjt.; 0123456789".indexOf(letter) < 0) {
                fault("d0 0 0. " + (char) letter + ";", 8);
                fault("d0 0 0l" + (char) letter + "0;", 7);
            }
        }
        fault("D0 0 0;", 0);
        fault("d0,0 0;", 2);
        fault("d-1 0 0;", 1);
        fault("d+1 0 0;", 1);
    }

    private static void longNumbers() {
        Checks.sentence("a NUMBER above 9 or with a 0 ahead of others, that TOKEN's");
        fault("d10 0 0;", 1);
        fault("d0 10 0;", 3);
        fault("d0 0 10;", 5);
        fault("d0 0 0l10;", 7);
        fault("d00 0 0;", 1);
        fault("d0 06 0;", 3);
        fault("d0 0 07;", 5);
        fault("d0 0 0t01;", 7);
        fault("d0 0 0. 12;", 8);
        fault("d0 0 0;00", 7);
        for (int number = 0; number <= 99; number++) {
            String digits = "" + number / 10 + number % 10;
            fault("d" + digits + " 0 0;", 1);
            fault("d0 " + digits + " 0;", 3);
            fault("d0 0 " + digits + ";", 5);
            fault("d0 0 0t" + digits + ";", 7);
            fault("d0 0 0l" + digits + digits + ";", 7);
        }
        for (String number : new String[] {"4294967296", "4294967297", "2147483648", "18446744073709551616"}) {
            fault("d0 " + number + " 0;", 3);
            fault("d0 0 0t" + number + ";", 7);
        }
        fault("d" + "0".repeat(99), 1);
        fault("d" + "1".repeat(99), 1);
    }

    private static void endsTooEarly() {
        Checks.sentence("the text's length, if it ends too early");
        String whole = ITEM + "d0 0 0l0ct1" + ";" + ITEM;
        for (int length = 0; length <= whole.length(); length++) {
            String text = whole.substring(0, length);
            boolean isEnd = length == 0 || text.endsWith(";");
            int items = (int) text.chars().filter(letter -> letter == ';').count();
            reads(text, isEnd ? items : -10 - length);
            reads(text + "   ", isEnd ? items : -10 - length - 3);
        }
        fault("d0 0 0" + TEN, 16);
        fault("d0 0 0" + " ".repeat(94), 100);
    }

    private static void theFirstOfSeveral() {
        Checks.sentence("the first TOKEN that can't stand there");
        fault("l x", 0);
        fault("d7 8 9 x 00", 1);
        fault("d0 x 00", 3);
        fault("d0 00 x", 3);
        fault("d0 0 0" + TEN + ".x", 16);
        fault(ITEM + ITEM + ITEM + "dx", 21);
        fault("d0 0 0 5 x", 7);
    }

    // ---- read anew

    private static void readAnew() {
        Checks.sentence("Read anew: as told, nothing can be UNDONE, nothing SEEN, IMAGES are gone.");
        for (String text : new String[] {"", ITEM, ITEM + ITEM, "d6 6 7r7cj6;d5 5 5;d4 4 4" + TEN + ";"}) {
            String anew = Probe.of(() -> Checks.told(text));
            String behindOthers = Probe.of(() -> {
                DanceStaffs x = usedUp();
                Checks.due("dance() behind others", typed(x, text).dance(), Checks.danced(text));
                return x;
            });
            Checks.isTrue("'" + text + "' anew:" + anew + "\nbehind others:" + behindOthers,
                anew.equals(behindOthers));
        }
        Checks.sentence("THE TEXT tells all anew, and is empty then");
        DanceStaffs x = typed(usedUp(), ITEM + "  ");
        Checks.due("count(5)", x.count(5), 9);
        Checks.due("dance()", x.dance(), 1);
        Checks.due("count(5) then", x.count(5), 0);
        Checks.due("clear() then", x.clear(), 0);
    }

    private static DanceStaffs typed(DanceStaffs x, String text) {
        Checks.type(x, text);
        return x;
    }

    /** All that there can be of each thing. */
    private static DanceStaffs usedUp() {
        DanceStaffs x = Checks.told(FULL_ITEM + FULL_ITEM + FULL_ITEM);
        x.keep(0);
        x.keep(1);
        for (int i = 0; i < 12; i++) {
            x.changes(i % 3, i % 10, 1 + i);
        }
        for (int i = 0; i < 6; i++) {
            x.sees(i, 6, 6);
        }
        return x;
    }
}
