/** What is SEEN, odds and books, promises 29 to 35: each sentence that names an edge. */
public final class EdgesSeenTest {
    private static final int NONE = HatsDecide.NONE, BAD = HatsDecide.BAD, FULL = HatsDecide.FULL;
    private static final long NO = HatsDecide.NO;

    public static void main(String[] args) {
        deedSeenIs0To999();
        seenAre6AtMost();
        noneSeenWhateverTheOtherIs();
        seeOfNoNumber();
        woreOfWhatIsNotSeen();
        woreForEachTimeItIsSeen();
        woreJustThat();
        woreOfNoNumber();
        woreWithoutHeads();
        whoOfNothingIs1();
        whoWithoutHeads();
        whoOfOneSeenOften();
        whoHasOneOnEachAtMost();
        whoOf6On6();
        whoWhateverIsOnNow();
        oddsWithoutHeads();
        oddsOfNoNumber();
        oddsAreInLowestTerms();
        oddsOfWorkOrMore();
        oddsOfNothingOn();
        meanWithoutHeads();
        meanOfNoNumber();
        meanIsInLowestTerms();
        meanOfOneHead();
        bookHas8AtMost();
        bookEmptyWhateverTheOtherIs();
        bookOfNoNumber();
        lookedAtNoRows();
        lookedAtTheFirst();
        lookedAtOnesOnNone();
        lookedAtOneHatOnTwo();
        Check.end();
    }

    private static HatsDecide made(int heads, int hats) {
        HatsDecide x = new HatsDecide();
        for (int i = 0; i < heads; i++) {
            x.head(0);
        }
        for (int i = 0; i < hats; i++) {
            x.hat(0, 0, 0, 10, i % 5);
        }
        return x;
    }

    private static void deedSeenIs0To999() {
        HatsDecide x = made(1, 1);
        Check.beyond("DEED", 0, 999, BAD, n -> x.see(0, n));
        Check.due("none came", x.count(3), 0);
        Check.due("0", x.see(0, 0), 1);
        Check.due("999", x.see(0, 999), 2);
    }

    private static void seenAre6AtMost() {
        HatsDecide x = made(1, 2);
        for (int i = 1; i <= 6; i++) {
            Check.due("SEEN " + i, x.see(0, 10), i);
        }
        Check.due("the seventh", x.see(1, 11), FULL);
        Check.due("they stay 6", x.count(3), 6);
        Check.due("the seventh is not SEEN", x.wore(1), 1);
        Check.due("none then", x.see(-1, 0), 0);
        Check.due("room again", x.see(1, 11), 1);
        Check.due("that one is SEEN", x.wore(1), 0);
    }

    private static void noneSeenWhateverTheOtherIs() {
        HatsDecide x = made(1, 1);
        Check.due("nothing was SEEN", x.see(-1, 5), 0);
        int[] others = {-1, 0, 999, 1000, Integer.MIN_VALUE, Integer.MAX_VALUE};
        for (int other : others) {
            x.see(0, 7);
            x.see(0, 8);
            Check.due("see(-1, " + other + ")", x.see(-1, other), 0);
            Check.due("none are", x.count(3), 0);
            Check.due("it was on all", x.wore(0), 1);
        }
        HatsDecide none = new HatsDecide();
        Check.due("without HATS", none.see(-1, -1), 0);
    }

    private static void seeOfNoNumber() {
        HatsDecide x = made(1, 2);
        Check.beyond("HAT", -1, 1, NONE, n -> x.see(n, 10));
        Check.due("none came", x.count(3), 0);
        Check.due("no HATS", new HatsDecide().see(0, 10), NONE);
    }

    private static void woreOfWhatIsNotSeen() {
        HatsDecide x = made(6, 2);
        Check.due("all HEADS", x.wore(0), 63);
        x.see(1, 999);
        Check.due("another one is SEEN", x.wore(0), 63);
        Check.due("that one", x.wore(1), 0);
    }

    private static void woreForEachTimeItIsSeen() {
        HatsDecide x = made(3, 1);
        Check.town(x, "suit 1 e=1;suit 2 e=2");
        x.see(0, 11);
        Check.due("once", x.wore(0), 2);
        x.see(0, 11);
        Check.due("twice alike", x.wore(0), 2);
        x.see(0, 12);
        Check.due("once otherwise", x.wore(0), 0);
    }

    private static void woreJustThat() {
        HatsDecide x = made(6, 1);
        Check.town(x, "gall 10 e=0;gall 1 e=1;suit 1 e=3;suit 1 e=4;suit 99 e=5");
        int[] deeds = {0, 9, 10, 11, 109, 8, 12, 1, 999};
        int[] due = {1, 2, 4, 24, 32, 0, 0, 0, 0};
        for (int i = 0; i < deeds.length; i++) {
            x.see(-1, 0);
            x.see(0, deeds[i]);
            Check.due("SEEN doing " + deeds[i], x.wore(0), due[i]);
        }
    }

    private static void woreOfNoNumber() {
        HatsDecide x = made(1, 2);
        Check.beyond("wore", 0, 1, NONE, x::wore);
        Check.due("no HATS", new HatsDecide().wore(0), NONE);
    }

    private static void woreWithoutHeads() {
        HatsDecide x = made(0, 1);
        Check.due("not SEEN", x.wore(0), 0);
        x.see(0, 10);
        Check.due("SEEN", x.wore(0), 0);
    }

    private static void whoOfNothingIs1() {
        Check.due("nothing at all", made(0, 0).who(), 1);
        Check.due("no HEADS", made(0, 2).who(), 1);
        Check.due("no HATS", made(2, 0).who(), 1);
        HatsDecide x = made(2, 2);
        Check.due("nothing SEEN", x.who(), 1);
        x.see(0, 999);
        Check.due("on none", x.who(), 0);
        x.see(-1, 0);
        Check.due("nothing SEEN again", x.who(), 1);
    }

    private static void whoWithoutHeads() {
        HatsDecide x = made(0, 1);
        x.see(0, 10);
        Check.due("one SEEN", x.who(), 0);
        x.head(0);
        Check.due("on the one HEAD", x.who(), 1);
    }

    private static void whoOfOneSeenOften() {
        HatsDecide x = made(3, 2);
        for (int i = 0; i < 6; i++) {
            x.see(1, 10);
        }
        Check.due("six times, it is one HAT", x.who(), 3);
    }

    private static void whoHasOneOnEachAtMost() {
        HatsDecide x = made(1, 2);
        x.see(0, 10);
        Check.due("one for one", x.who(), 1);
        x.see(1, 10);
        Check.due("two for one", x.who(), 0);
        x.head(0);
        Check.due("two for two", x.who(), 2);
        Check.town(x, "suit 1 a=0&e=0;suit 1 a=1&e=0");
        Check.due("both on HEAD 1", x.who(), 0);
        Check.town(x, "suit 1 a=0&e=0;suit 1 a=1&e=1");
        Check.due("in one way", x.who(), 1);
    }

    private static void whoOf6On6() {
        HatsDecide x = made(6, 6);
        for (int i = 0; i < 6; i++) {
            x.see(i, 10);
        }
        Check.due("all alike", x.who(), 720);
        // Each but on the HEAD of its own number: so often 6 are all elsewhere.
        Check.town(x, "suit 1 a=0&e=0|a=1&e=1|a=2&e=2|a=3&e=3|a=4&e=4|a=5&e=5");
        Check.due("each elsewhere", x.who(), 265);
        Check.town(x, "gall 1 a<5&e<5|a=5&e=5");
        Check.due("one HEAD for five", x.who(), 0);
    }

    private static void whoWhateverIsOnNow() {
        HatsDecide x = made(2, 2);
        Check.wear(x, 0, 1);
        x.see(0, 10);
        Check.due("HEADS that have something on", x.who(), 2);
        Check.due("that stays", x.of(0, 6), 0);
    }

    private static void oddsWithoutHeads() {
        HatsDecide x = made(0, 1);
        for (int trade = 0; trade < 5; trade++) {
            Check.due("above", x.odds(trade, 0), NO);
            Check.due("below", x.odds(trade, 1), NO);
        }
        x.head(0);
        fraction("one HEAD", x, 0, 0, 1);
    }

    private static void oddsOfNoNumber() {
        HatsDecide x = made(2, 2);
        Check.beyond("TRADE", 0, 4, NO, n -> x.odds(n, 0));
        Check.beyond("TRADE, below", 0, 4, NO, n -> x.odds(n, 1));
        Check.beyond("part", 0, 1, NO, n -> x.odds(0, n));
    }

    private static void fraction(String what, HatsDecide x, int trade, long above, long below) {
        Check.due(what + ", above", x.odds(trade, 0), above);
        Check.due(what + ", below", x.odds(trade, 1), below);
    }

    private static void oddsAreInLowestTerms() {
        int[][] above = {{0, 1}, {0, 1, 1}, {0, 1, 2, 1}, {0, 1, 1, 3, 1}, {0, 1, 2, 3, 4, 1}, {0, 1, 1, 1, 2, 5, 1}};
        int[][] below = {{1, 1}, {1, 2, 1}, {1, 3, 3, 1}, {1, 4, 2, 4, 1}, {1, 5, 5, 5, 5, 1}, {1, 6, 3, 2, 3, 6, 1}};
        for (int heads = 1; heads <= 6; heads++) {
            for (int right = 0; right <= heads; right++) {
                // On so many HEADS the one HAT does WORK; on all others it does less.
                HatsDecide x = made(heads, 1);
                Check.wear(x, heads - 1);
                Check.town(x, "gall 1 !e<" + right);
                fraction(right + " of " + heads, x, 0, above[heads - 1][right], below[heads - 1][right]);
            }
        }
    }

    private static void oddsOfWorkOrMore() {
        HatsDecide x = made(4, 1);
        Check.wear(x, 0);
        Check.town(x, "suit 1 e=1;gall 1 e=2;gall 2 e=3");
        fraction("more, alike, less, less", x, 0, 1, 2);
        Check.town(x, "suit 1 e=1;gall 1 e=2;gall 2 e=3;work 0 11");
        fraction("more WORK", x, 0, 1, 4);
        Check.town(x, "suit 1 e=1;gall 1 e=2;gall 2 e=3;work 0 9");
        fraction("less WORK", x, 0, 3, 4);
    }

    private static void oddsOfNothingOn() {
        HatsDecide x = made(3, 3);
        fraction("nothing does WORK", x, 0, 0, 1);
        Check.town(x, "work 0 0");
        fraction("WORK 0", x, 0, 1, 1);
    }

    private static void meanWithoutHeads() {
        HatsDecide x = made(0, 1);
        Check.due("above", x.mean(0, 0), NO);
        Check.due("below", x.mean(0, 1), NO);
    }

    private static void meanOfNoNumber() {
        HatsDecide x = made(2, 2);
        Check.beyond("HAT", 0, 1, NO, n -> x.mean(n, 0));
        Check.beyond("HAT, below", 0, 1, NO, n -> x.mean(n, 1));
        Check.beyond("part", 0, 1, NO, n -> x.mean(0, n));
        Check.due("no HATS", made(1, 0).mean(0, 0), NO);
    }

    private static void meanIsInLowestTerms() {
        HatsDecide x = made(6, 1);
        String[] texts = {"gall 99 a=0", "gall 9 e>0;gall 9 e=0", "gall 10 e>0", "suit 1 e=0", "suit 1 e<2", "suit 1 e<3"};
        int[] above = {0, 1, 5, 61, 31, 21};
        int[] below = {1, 1, 3, 6, 3, 2};
        for (int i = 0; i < texts.length; i++) {
            Check.town(x, texts[i]);
            Check.due(texts[i] + ", above", x.mean(0, 0), above[i]);
            Check.due(texts[i] + ", below", x.mean(0, 1), below[i]);
        }
    }

    private static void meanOfOneHead() {
        HatsDecide x = made(1, 1);
        Check.due("above", x.mean(0, 0), 10);
        Check.due("below", x.mean(0, 1), 1);
        x.skill(0, 0);
        Check.due("0 above", x.mean(0, 0), 0);
        Check.due("0 below", x.mean(0, 1), 1);
    }

    private static void bookHas8AtMost() {
        HatsDecide x = made(2, 2);
        Check.wear(x, 0, 1);
        for (int i = 1; i <= 8; i++) {
            Check.due("row " + i, x.book(i % 2, i % 2), i);
        }
        Check.due("the ninth", x.book(0, 1), FULL);
        Check.due("they stay 8", x.count(4), 8);
        Check.due("the ninth is not in it", x.looked(), -5);
        Check.due("empty", x.book(-1, 0), 0);
        Check.due("room again", x.book(0, 1), 1);
        Check.due("that one is in it", x.looked(), 0);
    }

    private static void bookEmptyWhateverTheOtherIs() {
        HatsDecide x = made(1, 1);
        Check.due("it was empty", x.book(-1, 0), 0);
        int[] others = {-1, 0, 1, 6, Integer.MIN_VALUE, Integer.MAX_VALUE};
        for (int other : others) {
            x.book(0, 0);
            x.book(0, 0);
            Check.due("book(-1, " + other + ")", x.book(-1, other), 0);
            Check.due("rows", x.count(4), 0);
            Check.due("looked", x.looked(), -5);
        }
        Check.due("without HATS and HEADS", new HatsDecide().book(-1, -1), 0);
    }

    private static void bookOfNoNumber() {
        HatsDecide x = made(2, 3);
        Check.beyond("HAT", -1, 2, NONE, n -> x.book(n, 0));
        Check.beyond("HEAD", 0, 1, NONE, n -> x.book(0, n));
        Check.due("rows", x.count(4), 0);
        Check.due("no HEADS", made(0, 1).book(0, 0), NONE);
        Check.due("no HATS", made(1, 0).book(0, 0), NONE);
    }

    private static void lookedAtNoRows() {
        HatsDecide x = made(2, 2);
        Check.due("nothing on", x.looked(), -5);
        Check.wear(x, 0, 1);
        Check.due("something on", x.looked(), -5);
    }

    private static void lookedAtTheFirst() {
        HatsDecide x = made(3, 3);
        Check.wear(x, 0, 1, 2);
        for (int i = 0; i < 8; i++) {
            x.book(i == 7 ? 2 : i % 2, i % 2);
        }
        Check.due("the last one", x.looked(), 7);
        x.put(1, -1);
        Check.due("one that comes ahead", x.looked(), 1);
        x.put(0, -1);
        Check.due("the first", x.looked(), 0);
    }

    private static void lookedAtOnesOnNone() {
        HatsDecide x = made(1, 2);
        x.book(0, 0);
        Check.due("on none", x.looked(), 0);
        x.put(1, 0);
        Check.due("another one is on that", x.looked(), 0);
        x.put(1, -1);
        x.put(0, 0);
        Check.due("it is on that", x.looked(), -5);
    }

    private static void lookedAtOneHatOnTwo() {
        HatsDecide x = made(2, 1);
        x.book(0, 0);
        x.book(0, 1);
        x.put(0, 0);
        Check.due("on the one", x.looked(), 1);
        x.put(0, 1);
        Check.due("on the other", x.looked(), 0);
    }
}
