/** THE TEXT, CLAUSES, FAULT, FITS, MOTH and WORK in the terms, promises 10 to 12: each edge. */
public final class EdgesTownsTest {
    private static final int NONE = HatsDecide.NONE, BAD = HatsDecide.BAD, FULL = HatsDecide.FULL;
    private static final String LETTERS = "aektud", SIGNS = "<=>", DIGITS = "0123456789";
    /** A TEXT with all there is, and how long its beginnings are that are TEXTS themselves. */
    private static final String WHOLE = "suit 7 !(a=1&e<20)|u>3;gall 12 !!d=0;moth 4;work 3 20";
    private static final int[] SOUND = {18, 22, 36, 43, 52, 53};

    public static void main(String[] args) {
        signsAre0To127();
        theTextHas100BytesAtMost();
        theTextIsEmptyThen();
        theTextStaysIfThereAre6();
        theOneThatHeldHolds();
        theNewestHolds();
        noTownNoClauses();
        clausesAre1To10();
        aFaultAtEachByte();
        theFaultOfATextThatEndsTooEarly();
        whatBytesEachPlaceTakes();
        oneBlankAheadOfEachPart();
        numbersHave1Or2Digits();
        fourWithinEachOtherAtMost();
        onesBesideEachOtherDoNotCount();
        notIsOfOneFAlone();
        andIsAheadOfOr();
        testsAtTheirNumbers();
        kindsAndTradesOfTests();
        usedModulo10();
        dayModulo7();
        fitsTogether();
        theLastMothIsThat();
        theLastWorkOfATradeIsThat();
        workOfATradeAbove4IsNone();
        toldWhat();
        Check.end();
    }

    private static void signsAre0To127() {
        HatsDecide x = new HatsDecide();
        Check.beyond("feed", 0, 127, BAD, x::feed);
        Check.due("none came", x.count(5), 0);
        Check.due("0", x.feed(0), 1);
        Check.due("127", x.feed(127), 2);
        Check.due("0 is where the FAULT is", x.town(), -10);
        x.feed('s');
        x.feed(127);
        Check.due("127 is where the FAULT is", x.town(), -11);
    }

    private static void theTextHas100BytesAtMost() {
        HatsDecide x = new HatsDecide();
        String text = "suit 07 " + "a<9&".repeat(22) + "a<99";
        for (int i = 0; i < 100; i++) {
            Check.due("byte " + i, x.feed(text.charAt(i)), i + 1);
        }
        Check.due("101st", x.feed(';'), FULL);
        Check.due("101st again", x.feed('1'), FULL);
        Check.due("they stay 100", x.count(5), 100);
        Check.due("all 100 are a TOWN, and no more", x.town(), 0);
        x.head(0);
        x.hat(0, 0, 0, 0, 0);
        Check.due("that TOWN", x.of(0, 10), 7);
        Check.due("then there is room", x.feed('x'), 1);
    }

    private static void theTextIsEmptyThen() {
        HatsDecide x = new HatsDecide();
        Check.due("a TOWN", Check.town(x, "moth 12"), 0);
        Check.due("empty behind it", x.count(5), 0);
        Check.due("nothing of it is left", x.town(), -10);
        Check.due("a FAULT", Check.town(x, "moth;"), -14);
        Check.due("empty behind that", x.count(5), 0);
        Check.due("from the start again", Check.town(x, "moth 5"), 1);
    }

    private static void theTextStaysIfThereAre6() {
        HatsDecide x = new HatsDecide();
        for (int i = 0; i < 6; i++) {
            Check.due("TOWN " + i, Check.town(x, "moth 1" + i), i);
        }
        Check.due("without THE TEXT", x.town(), FULL);
        Check.due("sound", Check.town(x, "moth 7"), FULL);
        Check.due("THE TEXT stays", x.count(5), 6);
        x.feed(';');
        Check.due("with a FAULT", x.town(), FULL);
        Check.due("THE TEXT stays then too", x.count(5), 7);
        Check.due("more comes behind it", x.feed('m'), 8);
        Check.due("the sixth holds", x.told(1), 15);
        Check.due("TOWNS", x.count(2), 6);
    }

    private static void theOneThatHeldHolds() {
        HatsDecide x = Check.heads(0);
        x.hat(0, 0, 0, 1, 2);
        Check.town(x, "suit 4 a=0&e=0;moth 3;work 2 44");
        String[] wrong = {"", "?", "gall 9 a=0;moth 8;work 2 88;", "work 2 77;moth 7;suit 1 (", "suit 9 a=0&"};
        for (String text : wrong) {
            Check.yes("a FAULT in '" + text + "'", Check.town(x, text) <= -10);
            Check.due("FITS behind '" + text + "'", x.of(0, 10), 5);
            Check.due("MOTH behind '" + text + "'", x.told(1), 3);
            Check.due("WORK behind '" + text + "'", x.told(22), 44);
        }
        Check.due("TOWNS", x.count(2), 1);
    }

    private static void theNewestHolds() {
        HatsDecide x = Check.heads(0);
        x.hat(0, 0, 0, 1, 0);
        Check.town(x, "suit 9 a=0;moth 9;work 0 9");
        Check.town(x, "work 1 5");
        Check.due("no FITS of the older one", x.of(0, 10), 1);
        Check.due("no MOTH of the older one", x.told(1), 0);
        Check.due("no WORK of the older one", x.told(20), 10);
        Check.due("its own", x.told(21), 5);
    }

    private static void noTownNoClauses() {
        HatsDecide x = Check.heads(0);
        x.hat(0, 0, 0, 13, 0);
        Check.town(x, "");
        Check.due("FITS", x.of(0, 10), 13);
        Check.due("MOTH", x.told(1), 0);
        for (int trade = 0; trade < 5; trade++) {
            Check.due("WORK of " + trade, x.told(20 + trade), 10);
        }
        Check.due("TOWNS", x.count(2), 0);
    }

    private static void clausesAre1To10() {
        fault("", 0);
        String text = "moth 1";
        sound(text);
        for (int clauses = 2; clauses <= 10; clauses++) {
            text += ";moth 1";
            sound(text);
        }
        fault(text + ";", 69);
        fault(text + ";moth 1", 69);
        fault(";" + text, 0);
        fault("moth 1;;moth 1", 7);
        fault("moth 1;", 7);
    }

    private static boolean isSoundUpTo(int length) {
        for (int sound : SOUND) {
            if (sound == length) {
                return true;
            }
        }
        return false;
    }

    private static void theFaultOfATextThatEndsTooEarly() {
        // Beginnings that end behind a whole clause are TEXTS; all others are at fault where they end.
        for (int length = 0; length <= WHOLE.length(); length++) {
            String text = WHOLE.substring(0, length);
            if (isSoundUpTo(length)) {
                sound(text);
            } else {
                fault(text, length);
            }
        }
    }

    private static void aFaultAtEachByte() {
        for (int i = 0; i < WHOLE.length(); i++) {
            fault(WHOLE.substring(0, i) + "?" + WHOLE.substring(i + 1), i);
            fault(WHOLE.substring(0, i) + "\u007f", i);
        }
        fault(WHOLE + "?", WHOLE.length());
        // The first one, also if there are more.
        fault("moth 1?moth ?", 6);
        fault("moth ?moth 1;?", 5);
    }

    /** Each of the 128 signs behind a beginning: only those told go on. */
    private static void takes(String beginning, String signs) {
        for (int sign = 0; sign < 128; sign++) {
            HatsDecide x = new HatsDecide();
            boolean goesOn = signs.indexOf(sign) >= 0;
            int at = beginning.length() + (goesOn ? 1 : 0);
            int answer = Check.town(x, beginning + (char) sign);
            Check.yes("'" + beginning + "' and sign " + sign + " answered " + answer,
                    answer == -10 - at || goesOn && answer == 0);
        }
    }

    private static void whatBytesEachPlaceTakes() {
        takes("", "sgmw");
        takes("s", "u");
        takes("g", "a");
        takes("m", "o");
        takes("w", "o");
        takes("suit", " ");
        takes("suit ", DIGITS);
        takes("suit 1", DIGITS + " ");
        takes("suit 12", " ");
        takes("suit 1 ", LETTERS + "!(");
        takes("gall 1 ", LETTERS + "!(");
        takes("suit 1 !", LETTERS + "!(");
        takes("suit 1 (", LETTERS + "!(");
        takes("suit 1 a", SIGNS);
        takes("suit 1 d", SIGNS);
        takes("suit 1 a<", DIGITS);
        takes("suit 1 a>9", DIGITS + "&|;");
        takes("suit 1 a=99", "&|;");
        takes("suit 1 a=9&", LETTERS + "!(");
        takes("suit 1 a=9|", LETTERS + "!(");
        takes("suit 1 (a=9", DIGITS + "&|)");
        takes("suit 1 (a=99", "&|)");
        takes("suit 1 (a=9)", "&|;");
        takes("suit 1 a=9;", "sgmw");
        takes("moth 1", DIGITS + ";");
        takes("moth 12", ";");
        takes("work 1", DIGITS + " ");
        takes("work 1 1", DIGITS + ";");
        takes("work 1 12", ";");
    }

    private static void oneBlankAheadOfEachPart() {
        fault("suit1 a=1", 4);
        fault("suit 1a=1", 6);
        fault("moth1", 4);
        fault("work1 1", 4);
        fault("work 12", 7);
        fault("suit  1 a=1", 5);
        fault("suit 1  a=1", 7);
        fault("moth  1", 5);
        fault("work 1  1", 7);
        fault(" moth 1", 0);
        fault("moth 1 ", 6);
        fault("moth 1 ;moth 1", 6);
        fault("moth 1; moth 1", 7);
        fault("suit 1 a =1", 8);
        fault("suit 1 a= 1", 9);
        fault("suit 1 a=1 &a=1", 10);
        fault("suit 1 ! a=1", 8);
        fault("suit 1 ( a=1)", 8);
    }

    private static void numbersHave1Or2Digits() {
        number("suit ", " a=1");
        number("gall ", " a=1");
        number("moth ", "");
        number("work ", " 1");
        number("work 1 ", "");
        number("suit 1 a=", "");
        number("suit 1 a<", "&a=1");
        number("suit 1 (a>", ")");
    }

    private static void number(String ahead, String behind) {
        for (String n : new String[] {"0", "9", "00", "09", "10", "99"}) {
            sound(ahead + n + behind);
        }
        fault(ahead + behind, ahead.length());
        fault(ahead + "-1" + behind, ahead.length());
        fault(ahead + "000" + behind, ahead.length() + 2);
        fault(ahead + "100" + behind, ahead.length() + 2);
    }

    private static void fourWithinEachOtherAtMost() {
        for (int mix = 0; mix < 16; mix++) {
            String ahead = "";
            String behind = "";
            for (int i = 0; i < 4; i++) {
                boolean isNot = (mix >> i & 1) == 1;
                ahead += isNot ? "!" : "(";
                behind += isNot ? "" : ")";
            }
            sound("suit 1 " + ahead + "a=1" + behind);
            fault("suit 1 " + ahead + "!a=1" + behind, 11);
            fault("suit 1 " + ahead + "(a=1)" + behind, 11);
            // What stands behind an F is within the ( around both, but not within the ! of that F.
            boolean isWithin4 = ahead.endsWith("(");
            faultIf(isWithin4, "gall 1 " + ahead + "a=1|!a=1" + behind, 15);
            faultIf(isWithin4, "gall 1 " + ahead + "a=1&(a=1)" + behind, 15);
        }
    }

    private static void onesBesideEachOtherDoNotCount() {
        sound("suit 1 (a=1)&(a=1)&(a=1)&(a=1)&(a=1)|(a=1)");
        sound("suit 1 !a=1&!a=1&!a=1&!a=1&!a=1|!a=1");
        sound("suit 1 ((((a=1))))&!!!!a=1|(!(!a=1))");
        sound("suit 1 (((!a=1&!a=1)|!a=1&(a=1)))");
        sound("suit 1 !!!!a=1&!!!!a=1;suit 1 !!!!a=1");
        fault("suit 1 ((((a=1))))&(((((a=1)))))", 23);
        fault("suit 1 a=1;suit 1 !!!!!a=1", 22);
    }

    /** Whether E holds for HAT 1 on HEAD 2. */
    private static void holds(String e, boolean is) {
        HatsDecide x = Check.heads(0, 0, 0);
        x.hat(0, 0, 0, 0, 0);
        x.hat(0, 0, 0, 0, 0);
        Check.due("town of " + e, Check.town(x, "suit 1 " + e), 0);
        Check.due(e, x.of(1, 12), is ? 1 : 0);
    }

    private static void notIsOfOneFAlone() {
        holds("!a=0|a=1", true);
        holds("!a=1|a=1", true);
        holds("!a=0&a=0", false);
        holds("!(a=0&a=0)", true);
        holds("!(a=1|a=0)", false);
        holds("!a=0&!e=0", true);
        holds("!!!a=1", false);
    }

    private static void andIsAheadOfOr() {
        holds("a=1|a=1&a=0", true);
        holds("(a=1|a=1)&a=0", false);
        holds("a=0&a=1|a=1", true);
        holds("a=0&(a=1|a=1)", false);
        holds("a=0|a=0|a=0", false);
        holds("a=1&a=1&a=1", true);
        holds("a=1&a=1&a=0|a=0", false);
    }

    private static void testsAtTheirNumbers() {
        holds("a<1", false);
        holds("a<2", true);
        holds("a=0", false);
        holds("a=1", true);
        holds("a=2", false);
        holds("a>0", true);
        holds("a>1", false);
        holds("e<2", false);
        holds("e<3", true);
        holds("e=2", true);
        holds("e>1", true);
        holds("e>2", false);
        holds("a=01", true);
        holds("a=10", false);
        holds("a<99", true);
        holds("a>99", false);
        holds("k<0", false);
        holds("k=0", true);
        holds("k=00", true);
    }

    private static void kindsAndTradesOfTests() {
        HatsDecide x = Check.heads(0, 9);
        for (int kind = 1; kind <= 6; kind++) {
            x.hat(kind, 0, 0, 9, kind % 5);
        }
        Check.town(x, "suit 20 k=6;suit 40 t=4;suit 30 t=0");
        int[] due = {9, 9, 9, 49, 39, 29};
        for (int hat = 0; hat < 6; hat++) {
            Check.due("HAT " + hat, x.of(hat, 10), due[hat]);
        }
        Check.town(x, "suit 20 k>6;suit 40 t>4;suit 1 k<7&t<5");
        for (int hat = 0; hat < 6; hat++) {
            Check.due("none is beyond, HAT " + hat, x.of(hat, 10), 10);
        }
    }

    private static void usedModulo10() {
        HatsDecide x = Check.heads(0);
        x.hat(0, 0, 0, 0, 0);
        x.put(0, 0);
        Check.town(x, "suit 1 u=0;suit 2 u=9;suit 4 u>9;suit 8 u<1;suit 16 u=10");
        for (int used = 0; used <= 31; used++) {
            int due = used % 10 == 0 ? 9 : used % 10 == 9 ? 2 : 0;
            Check.due("USED " + used, x.of(0, 10), due);
            x.day();
        }
    }

    private static void dayModulo7() {
        HatsDecide x = Check.heads(0);
        x.hat(0, 0, 0, 0, 0);
        Check.town(x, "suit 1 d=0;suit 2 d=6;suit 4 d>6;suit 8 d<1;suit 16 d=7");
        for (int day = 0; day <= 22; day++) {
            int due = day % 7 == 0 ? 9 : day % 7 == 6 ? 2 : 0;
            Check.due("DAY " + day, x.of(0, 10), due);
            x.day();
        }
    }

    private static void fitsTogether() {
        HatsDecide x = Check.heads(0);
        x.hat(0, 0, 0, 10, 0);
        Check.town(x, "suit 3 a=0;gall 5 a=0;suit 3 a=0;suit 50 a=1;gall 50 a=1;gall 2 e=0");
        Check.due("all that hold", x.of(0, 10), 9);
        Check.town(x, "gall 5 a=0;gall 5 a=0");
        Check.due("below 0", x.of(0, 10), 0);
        Check.town(x, "gall 99 a=0;suit 99 a=0");
        Check.due("they are less together, not one by one", x.of(0, 10), 10);
        Check.town(x, "suit 0 a=0;gall 0 a=0;suit 99 a=0;suit 99 a=0");
        Check.due("greatest", x.of(0, 10), 208);
    }

    private static void theLastMothIsThat() {
        HatsDecide x = new HatsDecide();
        String[] texts = {"work 0 1", "moth 0", "moth 99", "moth 7;moth 3", "moth 3;moth 7;work 1 1", "moth 8;moth 0"};
        int[] moths = {0, 0, 99, 3, 7, 0};
        for (int i = 0; i < texts.length; i++) {
            Check.due(texts[i], Check.town(x, texts[i]), i);
            Check.due("MOTH of " + texts[i], x.told(1), moths[i]);
        }
    }

    private static void theLastWorkOfATradeIsThat() {
        HatsDecide x = new HatsDecide();
        Check.town(x, "work 0 99;work 4 0;work 02 5;work 2 6;work 0 98");
        int[] due = {98, 10, 6, 10, 0};
        for (int trade = 0; trade < 5; trade++) {
            Check.due("WORK of " + trade, x.told(20 + trade), due[trade]);
        }
    }

    private static void workOfATradeAbove4IsNone() {
        HatsDecide x = new HatsDecide();
        Check.due("a TOWN all the same", Check.town(x, "work 5 1;work 9 2;work 10 3;work 99 4;work 14 5"), 0);
        for (int trade = 0; trade < 5; trade++) {
            Check.due("WORK of " + trade, x.told(20 + trade), 10);
        }
        Check.town(x, "work 4 7;work 5 1");
        Check.due("WORK of 4", x.told(24), 7);
        Check.town(x, "work 5 0;work 99 0");
        Check.due("no bit of ENOUGH", x.enough(), 0);
        Check.due("no bit of CAN", x.can(), 0);
    }

    private static void toldWhat() {
        HatsDecide x = new HatsDecide();
        Check.beyond("told", 0, 24, NONE, x::told);
        for (int what = 2; what < 20; what++) {
            Check.due("told " + what, x.told(what), what >= 10 && what < 15 ? 0 : NONE);
        }
    }

    private static void faultIf(boolean is, String text, int place) {
        if (is) {
            fault(text, place);
        } else {
            sound(text);
        }
    }

    private static void fault(String text, int place) {
        Check.due("'" + text + "'", Check.town(new HatsDecide(), text), -10 - place);
    }

    private static void sound(String text) {
        Check.due("'" + text + "'", Check.town(new HatsDecide(), text), 0);
    }
}
