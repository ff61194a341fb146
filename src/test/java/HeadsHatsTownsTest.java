/** Promises 1 to 12: a new object, heads, hats, towns. */
public final class HeadsHatsTownsTest {
    private static final int NONE = HatsDecide.NONE, BAD = HatsDecide.BAD;
    private static final int STATE = HatsDecide.STATE, FULL = HatsDecide.FULL;

    public static void main(String[] args) {
        newObject();
        head();
        hat();
        of();
        deeds();
        at();
        row();
        put();
        own();
        skill();
        feed();
        town();
        faults();
        expressions();
        letters();
        told();
        Check.end();
    }

    private static void newObject() {
        HatsDecide x = new HatsDecide();
        for (int what = 0; what <= 6; what++) {
            Check.due("new count " + what, x.count(what), 0);
        }
        Check.due("new at", x.at(0, 0), NONE);
        Check.due("new of", x.of(0, 0), -10001);
        Check.due("new undo", x.undo(), STATE);
        Check.due("new DAY", x.told(0), 0);
        Check.due("new MOTH", x.told(1), 0);
        for (int trade = 0; trade < 5; trade++) {
            Check.due("new DONE", x.told(10 + trade), 0);
            Check.due("new WORK", x.told(20 + trade), 10);
        }
        for (int tape = 0; tape < 6; tape++) {
            Check.due("new tape", x.item(tape, 0, 1), -11);
        }
        Check.due("NONE", HatsDecide.NONE, -1);
        Check.due("BAD", HatsDecide.BAD, -2);
        Check.due("STATE", HatsDecide.STATE, -3);
        Check.due("FULL", HatsDecide.FULL, -4);
        Check.due("NO", HatsDecide.NO, Long.MIN_VALUE);
    }

    private static void head() {
        HatsDecide x = new HatsDecide();
        Check.due("head below 0", x.head(-1), BAD);
        Check.due("head above 9", x.head(10), BAD);
        for (int i = 0; i < 6; i++) {
            Check.due("head", x.head(i == 5 ? 9 : i), i);
        }
        Check.due("seventh head", x.head(0), FULL);
        Check.due("seventh head, BAD first", x.head(10), BAD);
        Check.due("heads", x.count(1), 6);
        Check.due("size of head 5", x.at(5, 0), 9);
        Check.due("size of head 0", x.at(0, 0), 0);
    }

    private static void hat() {
        HatsDecide x = new HatsDecide();
        Check.due("kind below 0", x.hat(-1, 0, 0, 0, 0), NONE);
        Check.due("kind above 6", x.hat(7, 0, 0, 0, 0), NONE);
        Check.due("trade below 0", x.hat(0, 0, 0, 0, -1), NONE);
        Check.due("trade above 4", x.hat(0, 10, 0, 0, 5), NONE);
        Check.due("v above 9", x.hat(0, 10, 0, 0, 0), BAD);
        Check.due("v below 0", x.hat(0, -1, 0, 0, 0), BAD);
        Check.due("size above 9", x.hat(0, 0, 10, 0, 0), BAD);
        Check.due("size below 0", x.hat(0, 0, -1, 0, 0), BAD);
        Check.due("skill above 50", x.hat(0, 0, 0, 51, 0), BAD);
        Check.due("skill below 0", x.hat(0, 0, 0, -1, 0), BAD);
        for (int i = 0; i < 6; i++) {
            Check.due("hat", x.hat(i, 9, 9, 50, 4), i);
        }
        Check.due("seventh hat", x.hat(0, 0, 0, 0, 0), FULL);
        Check.due("seventh hat, BAD first", x.hat(0, 0, 0, 51, 0), BAD);
        Check.due("seventh hat, NONE first", x.hat(7, 0, 0, 51, 0), NONE);
        Check.due("hats", x.count(0), 6);
    }

    private static void of() {
        HatsDecide x = Check.heads(3, 5);
        x.hat(4, 7, 5, 31, 2);
        Check.due("KIND", x.of(0, 0), 4);
        Check.due("v", x.of(0, 1), 7);
        Check.due("SIZE", x.of(0, 2), 5);
        Check.due("SKILL", x.of(0, 3), 31);
        Check.due("TRADE", x.of(0, 4), 2);
        Check.due("USED", x.of(0, 5), 0);
        Check.due("on none", x.of(0, 6), -5);
        x.put(0, 1);
        x.day();
        Check.due("USED a day", x.of(0, 5), 1);
        Check.due("on head 1", x.of(0, 6), 1);
        Check.due("DEED on head 0", x.of(0, 10), 0);
        Check.due("DEED on head 1", x.of(0, 11), 31);
        Check.due("no head 2", x.of(0, 12), -10001);
        Check.due("what 7", x.of(0, 7), -10001);
        Check.due("what 9", x.of(0, 9), -10001);
        Check.due("what -1", x.of(0, -1), -10001);
        Check.due("least what", x.of(0, Integer.MIN_VALUE), -10001);
        Check.due("no hat 1", x.of(1, 0), -10001);
        Check.due("no hat -1", x.of(-1, 0), -10001);
    }

    /** DEED of each KIND, at what the terms name: 0 at least, in itself. */
    private static void deeds() {
        HatsDecide x = Check.heads(2, 5);
        for (int kind = 0; kind < 6; kind++) {
            x.hat(kind, 4, 5, 20, 0);
        }
        int[] far = {20, 14, 20, 24, 0, 16};
        int[] fitting = {20, 20, 20, 24, 20, 16};
        for (int hat = 0; hat < 6; hat++) {
            Check.due("far DEED of " + hat, x.of(hat, 10), far[hat]);
            Check.due("fitting DEED of " + hat, x.of(hat, 11), fitting[hat]);
        }
        // A gall that takes all of SKILL: a CROWN still has v, as HAT is 0 in itself.
        Check.town(x, "gall 99 t=0");
        int[] galled = {0, 0, 0, 4, 0, 0};
        for (int hat = 0; hat < 6; hat++) {
            Check.due("galled DEED of " + hat, x.of(hat, 11), galled[hat]);
        }
        worn();
        toldRow();
    }

    private static void worn() {
        HatsDecide x = Check.heads(0, 0);
        x.hat(2, 3, 0, 20, 0);
        x.hat(5, 3, 0, 20, 0);
        x.hat(0, 3, 0, 20, 0);
        Check.town(x, "moth 7");
        Check.wear(x, 0, 1);
        int[] worn = {20, 19, 17, 15, 13, 12, 10, 8, 6, 5, 3, 1, 0, 0};
        for (int day = 0; day < worn.length; day++) {
            Check.due("WORN on day " + day, x.of(0, 10), worn[day]);
            Check.due("FRAYED on day " + day, x.of(1, 10), Math.max(0, worn[day] - 3));
            Check.due("HAT on day " + day, x.of(2, 10), 20);
            x.day();
        }
    }

    private static void toldRow() {
        HatsDecide x = Check.heads(0);
        x.hat(6, 3, 5, 20, 0);
        for (int part = 0; part < 4; part++) {
            x.row(0, part, part + 5);
        }
        for (int day = 0; day < 6; day++) {
            Check.due("TOLD on day " + day, x.of(0, 10), 23 + 5 + day % 4);
            x.day();
        }
    }

    private static void at() {
        HatsDecide x = Check.heads(3, 7);
        x.hat(0, 0, 0, 0, 0);
        Check.due("size", x.at(1, 0), 7);
        Check.due("nothing on", x.at(1, 1), -5);
        Check.due("no own", x.at(1, 2), -5);
        x.put(0, 1);
        x.own(0, 0);
        Check.due("hat on", x.at(1, 1), 0);
        Check.due("own", x.at(0, 2), 0);
        Check.due("what 3", x.at(0, 3), NONE);
        Check.due("what -1", x.at(0, -1), NONE);
        Check.due("head 2", x.at(2, 0), NONE);
        Check.due("head -1", x.at(-1, 0), NONE);
    }

    private static void row() {
        HatsDecide x = new HatsDecide();
        x.hat(6, 0, 0, 0, 0);
        x.hat(3, 0, 0, 0, 0);
        x.hat(6, 0, 0, 0, 0);
        for (int part = 0; part < 4; part++) {
            Check.due("row", x.row(0, part, part + 6), 0);
        }
        for (int part = 0; part < 4; part++) {
            Check.due("row again", x.row(0, part, 0), part + 6);
            Check.due("another row", x.row(2, part, 1), 0);
        }
        Check.due("row of another kind", x.row(1, 0, 1), STATE);
        Check.due("n above 9", x.row(0, 0, 10), BAD);
        Check.due("n below 0", x.row(0, 0, -1), BAD);
        Check.due("BAD ahead of STATE", x.row(1, 0, 10), BAD);
        Check.due("part 4", x.row(0, 4, 10), NONE);
        Check.due("part -1", x.row(0, -1, 0), NONE);
        Check.due("hat 3", x.row(3, 0, 0), NONE);
        Check.due("hat -1", x.row(-1, 0, 0), NONE);
        Check.due("nothing changed", x.row(0, 0, 0), 0);
    }

    private static void put() {
        HatsDecide x = Check.heads(0, 0, 0);
        x.hat(0, 0, 0, 0, 0);
        x.hat(0, 0, 0, 0, 0);
        Check.due("put", x.put(0, 0), -5);
        Check.due("put on another", x.put(0, 2), 0);
        Check.due("on that one", x.of(0, 6), 2);
        Check.due("and no other", x.at(0, 1), -5);
        Check.due("put where it is", x.put(0, 2), 2);
        Check.due("still there", x.at(2, 1), 0);
        Check.due("another one is on", x.put(1, 2), STATE);
        Check.due("still none", x.of(1, 6), -5);
        Check.due("put on none", x.put(0, -1), 2);
        Check.due("on none", x.of(0, 6), -5);
        Check.due("put on none again", x.put(0, -1), -5);
        Check.due("room for the other", x.put(1, 2), -5);
        Check.due("head 3", x.put(0, 3), NONE);
        Check.due("head -2", x.put(0, -2), NONE);
        Check.due("hat 2", x.put(2, 2), NONE);
        Check.due("hat -1", x.put(-1, 0), NONE);
    }

    private static void own() {
        HatsDecide x = Check.heads(0, 0);
        x.hat(0, 0, 0, 0, 0);
        x.hat(0, 0, 0, 0, 0);
        Check.due("own", x.own(0, 1), -5);
        Check.due("own another", x.own(0, 0), 1);
        Check.due("the same by two", x.own(1, 0), -5);
        Check.due("own none", x.own(0, -1), 0);
        Check.due("owned none", x.own(0, 1), -5);
        Check.due("hat 2", x.own(0, 2), NONE);
        Check.due("hat -2", x.own(0, -2), NONE);
        Check.due("head 2", x.own(2, 0), NONE);
        Check.due("head -1", x.own(-1, -1), NONE);
        Check.due("own stays", x.at(0, 2), 1);
    }

    private static void skill() {
        HatsDecide x = Check.heads(0);
        x.hat(0, 0, 0, 12, 0);
        Check.due("skill", x.skill(0, 50), 12);
        Check.due("DEED by it", x.of(0, 10), 50);
        Check.due("skill 0", x.skill(0, 0), 50);
        Check.due("skill 51", x.skill(0, 51), BAD);
        Check.due("skill -1", x.skill(0, -1), BAD);
        Check.due("no hat", x.skill(1, 51), NONE);
        Check.due("hat -1", x.skill(-1, 1), NONE);
        Check.due("skill stays", x.of(0, 3), 0);
    }

    private static void feed() {
        HatsDecide x = new HatsDecide();
        Check.due("sign -1", x.feed(-1), BAD);
        Check.due("sign 128", x.feed(128), BAD);
        for (int i = 1; i <= 100; i++) {
            Check.due("feed", x.feed(i % 128), i);
        }
        Check.due("101st", x.feed(0), FULL);
        Check.due("101st, BAD first", x.feed(128), BAD);
        Check.due("bytes", x.count(5), 100);
        Check.due("a fault at the first", x.town(), -10);
        Check.due("empty then", x.count(5), 0);
        Check.due("sign 0", x.feed(0), 1);
        Check.due("sign 127", x.feed(127), 2);
    }

    private static void town() {
        HatsDecide x = Check.heads(0);
        x.hat(0, 0, 0, 1, 0);
        for (int i = 0; i < 6; i++) {
            Check.due("town", Check.town(x, "suit 9 a=0;moth " + i), i);
            Check.due("it holds", x.told(1), i);
            Check.due("text is empty", x.count(5), 0);
            Check.due("towns", x.count(2), i + 1);
            if (i < 5) {
                Check.due("a fault", Check.town(x, "suit 9 a=0;moth 5;"), -28);
                Check.due("the one that held holds", x.told(1), i);
                Check.due("its FITS too", x.of(0, 10), 10);
                Check.due("no more towns", x.count(2), i + 1);
            }
        }
        Check.due("seventh", Check.town(x, "moth 9"), FULL);
        Check.due("the text stays", x.count(5), 6);
        Check.due("the sixth holds", x.told(1), 5);
        x.feed('?');
        Check.due("FULL ahead of a fault", x.town(), FULL);
        Check.due("the text stays", x.count(5), 7);
        townBehindFaults();
    }

    /** What TEXTS with a FAULT leave behind must not reach the next TOWN. */
    private static void townBehindFaults() {
        HatsDecide x = Check.heads(0);
        x.hat(0, 0, 0, 1, 0);
        String wrong = "work 0 5;moth 7;suit 9 " + "a=0|".repeat(18);
        for (int i = 0; i < 4; i++) {
            Check.due("a long fault", Check.town(x, wrong), -10 - wrong.length());
        }
        Check.due("a town then", Check.town(x, "gall 1 a=1;suit 6 !a=1&(a=0|a=2)"), 0);
        Check.due("its FITS", x.of(0, 10), 7);
        Check.due("its MOTH", x.told(1), 0);
        Check.due("its WORK", x.told(20), 10);
    }

    private static void faults() {
        fault("", 0);
        fault("x", 0);
        fault(" suit 1 a=1", 0);
        fault("Suit 1 a=1", 0);
        fault("sui", 3);
        fault("suti 1 a=1", 2);
        fault("suit", 4);
        fault("suit1 a=1", 4);
        fault("suit ", 5);
        fault("suit  1 a=1", 5);
        fault("suit a", 5);
        fault("suit 1", 6);
        fault("suit 1a=1", 6);
        fault("suit 12", 7);
        fault("suit 123", 7);
        fault("suit 1;", 6);
        fault("suit 1 ", 7);
        fault("suit 1 b=1", 7);
        fault("suit 1 a", 8);
        fault("suit 1 a!1", 8);
        fault("suit 1 a=", 9);
        fault("suit 1 a=a", 9);
        fault("suit 1 a=123", 11);
        fault("suit 1 a=1 ", 10);
        fault("suit 1 a=1)", 10);
        fault("suit 1 a=1&", 11);
        fault("suit 1 a=1|;", 11);
        fault("suit 1 a=1&&a=1", 11);
        fault("suit 1 (a=1", 11);
        fault("suit 1 (a=1;moth 1", 11);
        fault("suit 1 ()", 8);
        fault("suit 1 !", 8);
        fault("suit 1 !!!!!a=1", 11);
        fault("suit 1 !(!(!a=1))", 11);
        fault("suit 1 ((((!a=1))))", 11);
        fault("suit 1 (((((a=1)))))", 11);
        fault("suit 1 ((((a=1)))", 17);
        fault("gall 1", 6);
        fault("gull 1 a=1", 1);
        fault("moth 1 2", 6);
        fault("moth 123", 7);
        fault("math 1", 1);
        fault("work 1", 6);
        fault("work 1 ", 7);
        fault("work 1 2 3", 8);
        fault("word 1 2", 3);
        fault("moth 1;", 7);
        fault("moth 1;;", 7);
        fault("moth 1; moth 1", 7);
        fault("moth 1moth 1", 6);
        String nine = "moth 1;moth 1;moth 1;moth 1;moth 1;moth 1;moth 1;moth 1;moth 1;";
        fault(nine, 63);
        fault(nine + "moth 1;", 69);
        fault(nine + "moth 1;moth 1", 69);
        HatsDecide x = sound(nine + "moth 2");
        Check.due("the last holds", x.told(1), 2);
        fault("suit 1 " + "a=1&".repeat(23) + "a", 100);
        sound("suit 10 " + "a=1&".repeat(22) + "a=12");
        sound("suit 9 !!!!a=1");
        sound("gall 09 !(!(a=1))");
    }

    private static void fault(String text, int place) {
        Check.due("fault of '" + text + "'", Check.town(new HatsDecide(), text), -10 - place);
    }

    private static HatsDecide sound(String text) {
        HatsDecide x = new HatsDecide();
        Check.due("town of '" + text + "'", Check.town(x, text), 0);
        return x;
    }

    /** Which E hold of HAT 1 on HEAD 2, by FITS of 1. */
    private static void expressions() {
        holds("a=1", true);
        holds("a=0", false);
        holds("a<2", true);
        holds("a<1", false);
        holds("a>0", true);
        holds("a>1", false);
        holds("a=01", true);
        holds("!a=1", false);
        holds("!!a=1", true);
        holds("!!!!a=1", true);
        holds("a=1&e=2", true);
        holds("a=1&e=1", false);
        holds("a=0&e=2", false);
        holds("a=0|e=2", true);
        holds("a=1|e=1", true);
        holds("a=0|e=1", false);
        holds("a=1|a=1&a=0", true);
        holds("a=0&a=0|a=1", true);
        holds("(a=1|a=1)&a=0", false);
        holds("a=0&(a=0|a=1)", false);
        holds("!a=1|a=1", true);
        holds("!(a=1|a=1)", false);
        holds("!a=0&a=1", true);
        holds("a=1&!a=0&e=2", true);
        holds("a=0|a=0|e=2", true);
        holds("((((a=1))))", true);
        holds("!(!(a=1))", true);
        holds("(a=1)&(e=2)|(a=0)", true);
        holds("a=0&a=1|a=1&e=2", true);
        holds("a=1&(a=0|(e=2&(a=0|(a=1))))", true);
    }

    private static void holds(String expression, boolean is) {
        HatsDecide x = Check.heads(0, 0, 0);
        x.hat(0, 0, 0, 10, 0);
        x.hat(0, 0, 0, 10, 0);
        Check.town(x, "suit 7 " + expression + ";gall 3 " + expression + ";suit 2 a>5");
        Check.due(expression, x.of(1, 12), is ? 14 : 10);
    }

    /** What each letter of a TEST tells. */
    private static void letters() {
        HatsDecide x = Check.heads(1, 2, 3);
        x.hat(0, 0, 7, 10, 0);
        x.hat(3, 0, 8, 10, 4);
        Check.wear(x, -1, 0);
        Check.town(x, "suit 1 a=1;suit 2 e=2;suit 4 k=3;suit 8 t=4;suit 16 u=0;suit 32 d=0");
        Check.due("hat 1 on head 2", x.of(1, 12), 10 + 63);
        Check.due("hat 0 on head 1", x.of(0, 11), 10 + 48);
        for (int day = 1; day <= 21; day++) {
            x.day();
            int used = day % 10 == 0 ? 16 : 0;
            int days = day % 7 == 0 ? 32 : 0;
            Check.due("worn on day " + day, x.of(1, 12), 10 + 15 + used + days);
            Check.due("not worn on day " + day, x.of(0, 10), 10 + 16 + days);
        }
    }

    private static void told() {
        HatsDecide x = Check.heads(0);
        x.hat(0, 0, 0, 15, 3);
        x.put(0, 0);
        Check.town(x, "moth 5;work 2 7;moth 12;work 2 99;work 5 1;work 0 0");
        x.day();
        x.day();
        Check.due("DAY", x.told(0), 2);
        Check.due("MOTH", x.told(1), 12);
        int[] done = {0, 0, 0, 30, 0};
        int[] work = {0, 10, 99, 10, 10};
        for (int trade = 0; trade < 5; trade++) {
            Check.due("DONE of " + trade, x.told(10 + trade), done[trade]);
            Check.due("WORK of " + trade, x.told(20 + trade), work[trade]);
        }
        int[] none = {-1, 2, 9, 15, 19, 25, 30, Integer.MIN_VALUE, Integer.MAX_VALUE};
        for (int what : none) {
            Check.due("told " + what, x.told(what), NONE);
        }
        Check.town(x, "work 1 1");
        Check.due("MOTH without", x.told(1), 0);
        Check.due("WORK without", x.told(22), 10);
    }
}
