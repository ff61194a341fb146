/** Promises 29 to 35: what is seen, odds, books. */
public final class SeenAndBooksTest {
    private static final int NONE = HatsDecide.NONE, BAD = HatsDecide.BAD;
    private static final int FULL = HatsDecide.FULL;
    private static final long NO = HatsDecide.NO;

    public static void main(String[] args) {
        see();
        wore();
        who();
        odds();
        mean();
        book();
        looked();
        asItIs();
        Check.end();
    }

    private static void see() {
        HatsDecide x = Check.heads(0);
        x.hat(0, 0, 0, 10, 0);
        Check.due("none", x.see(-1, -7), 0);
        for (int i = 1; i <= 6; i++) {
            Check.due("see", x.see(0, i == 1 ? 0 : 999), i);
        }
        Check.due("seventh", x.see(0, 1), FULL);
        Check.due("BAD ahead of FULL", x.see(0, 1000), BAD);
        Check.due("NONE ahead of both", x.see(1, 1000), NONE);
        Check.due("how many", x.count(3), 6);
        Check.due("none then", x.see(-1, 5000), 0);
        Check.due("how many then", x.count(3), 0);
        Check.due("deed -1", x.see(0, -1), BAD);
        Check.due("hat -2", x.see(-2, 1), NONE);
        Check.due("first again", x.see(0, 1), 1);
    }

    private static void wore() {
        HatsDecide x = Check.heads(5, 6, 4, 9);
        x.hat(1, 0, 5, 20, 0);
        x.hat(0, 0, 5, 20, 0);
        Check.due("not seen", x.wore(0), 15);
        x.see(0, 18);
        Check.due("seen", x.wore(0), 6);
        Check.due("the other is not", x.wore(1), 15);
        x.see(0, 18);
        Check.due("seen alike twice", x.wore(0), 6);
        x.see(1, 20);
        Check.due("on all", x.wore(1), 15);
        x.see(0, 20);
        Check.due("seen in two ways", x.wore(0), 0);
        Check.due("no hat", x.wore(2), NONE);
        Check.due("hat -1", x.wore(-1), NONE);
        HatsDecide none = new HatsDecide();
        none.hat(0, 0, 0, 0, 0);
        Check.due("no heads", none.wore(0), 0);
    }

    private static void who() {
        HatsDecide x = new HatsDecide();
        Check.due("nothing seen", x.who(), 1);
        x.hat(0, 0, 0, 10, 0);
        x.see(0, 10);
        Check.due("no heads", x.who(), 0);
        x = Check.heads(0, 0, 0, 0, 0, 0);
        int[] ways = {6, 30, 120, 360, 720, 720};
        for (int i = 0; i < 6; i++) {
            x.hat(0, 0, 0, 10, 0);
            x.see(i, 10);
            Check.due((i + 1) + " on 6 heads", x.who(), ways[i]);
        }
        x.see(-1, 0);
        x.see(2, 10);
        x.see(2, 10);
        Check.due("one seen twice", x.who(), 6);
        x.see(3, 11);
        Check.due("one on none", x.who(), 0);
        x = Check.heads(5, 6, 4);
        x.hat(1, 0, 5, 20, 0);
        x.hat(1, 0, 4, 20, 0);
        x.see(0, 18);
        Check.due("on two", x.who(), 2);
        x.see(1, 18);
        // The second only on head 0, so the first on 1 or 2.
        Check.due("both", x.who(), 2);
        x.see(-1, 0);
        x.see(0, 20);
        x.see(1, 18);
        Check.due("both on head 0 alone", x.who(), 0);
    }

    private static void odds() {
        HatsDecide none = new HatsDecide();
        Check.due("no heads", none.odds(0, 0), NO);
        HatsDecide x = Check.heads(0, 0, 0, 0, 0, 0);
        x.hat(0, 0, 0, 9, 0);
        x.put(0, 4);
        fraction("never", x, 0, 0, 1);
        Check.town(x, "suit 1 e=0");
        fraction("once", x, 0, 1, 6);
        Check.town(x, "suit 1 e=0|e=5");
        fraction("twice", x, 0, 1, 3);
        Check.town(x, "suit 1 e<4");
        fraction("four times", x, 0, 2, 3);
        Check.town(x, "work 0 9;work 1 0");
        fraction("always", x, 0, 1, 1);
        fraction("of no work", x, 1, 1, 1);
        fraction("of another trade", x, 2, 0, 1);
        Check.due("part 2", x.odds(0, 2), NO);
        Check.due("part -1", x.odds(0, -1), NO);
        Check.due("trade 5", x.odds(5, 0), NO);
        Check.due("trade -1", x.odds(-1, 0), NO);
    }

    private static void fraction(String what, HatsDecide x, int trade, long above, long below) {
        Check.due(what + ", above", x.odds(trade, 0), above);
        Check.due(what + ", below", x.odds(trade, 1), below);
    }

    private static void mean() {
        HatsDecide none = new HatsDecide();
        none.hat(0, 0, 0, 10, 0);
        Check.due("no heads", none.mean(0, 0), NO);
        HatsDecide x = Check.heads(5, 6, 7, 5);
        x.hat(1, 0, 5, 20, 0);
        x.hat(0, 0, 5, 0, 0);
        x.hat(4, 0, 5, 7, 0);
        int[] above = {37, 0, 7};
        int[] below = {2, 1, 2};
        for (int hat = 0; hat < 3; hat++) {
            Check.due("above " + hat, x.mean(hat, 0), above[hat]);
            Check.due("below " + hat, x.mean(hat, 1), below[hat]);
        }
        Check.town(x, "suit 1 e=0");
        Check.due("not to be cut", x.mean(0, 0), 75);
        Check.due("not to be cut", x.mean(0, 1), 4);
        Check.due("part 2", x.mean(0, 2), NO);
        Check.due("part -1", x.mean(0, -1), NO);
        Check.due("hat 3", x.mean(3, 0), NO);
        Check.due("hat -1", x.mean(-1, 0), NO);
    }

    private static void book() {
        HatsDecide x = Check.heads(0, 0);
        x.hat(0, 0, 0, 0, 0);
        Check.due("empty", x.book(-1, -9), 0);
        for (int i = 1; i <= 8; i++) {
            Check.due("book", x.book(0, i % 2), i);
        }
        Check.due("ninth", x.book(0, 0), FULL);
        Check.due("NONE ahead of FULL", x.book(0, 2), NONE);
        Check.due("rows", x.count(4), 8);
        Check.due("empty then", x.book(-1, 77), 0);
        Check.due("rows then", x.count(4), 0);
        Check.due("head -1", x.book(0, -1), NONE);
        Check.due("hat 1", x.book(1, 0), NONE);
        Check.due("hat -2", x.book(-2, 0), NONE);
    }

    private static void looked() {
        HatsDecide x = Check.heads(0, 0, 0);
        x.hat(0, 0, 0, 0, 0);
        x.hat(0, 0, 0, 0, 0);
        Check.due("no rows", x.looked(), -5);
        Check.wear(x, 1, 2);
        x.book(0, 1);
        x.book(1, 2);
        Check.due("all so", x.looked(), -5);
        x.book(1, 0);
        x.book(0, 0);
        Check.due("the first that is not", x.looked(), 2);
        x.put(1, 0);
        Check.due("another then", x.looked(), 1);
        x.put(0, -1);
        Check.due("on none", x.looked(), 0);
    }

    /** By what DAY it is: each of these would be otherwise a DAY later. */
    private static void asItIs() {
        HatsDecide x = Check.heads(0, 0);
        x.hat(0, 0, 0, 10, 0);
        x.put(0, 0);
        Check.town(x, "suit 5 e=1&d=0;suit 9 e=0&d=1;work 0 15");
        x.see(0, 15);
        Check.due("wore", x.wore(0), 2);
        Check.due("who", x.who(), 1);
        fraction("odds", x, 0, 1, 2);
        Check.due("mean", x.mean(0, 0), 25);
        x.day();
        Check.due("wore, a day later", x.wore(0), 0);
        Check.due("who, a day later", x.who(), 0);
        Check.due("mean, a day later", x.mean(0, 0), 29);
        x.day();
        fraction("odds, two days later", x, 0, 0, 1);
    }
}
