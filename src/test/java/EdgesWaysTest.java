/** Ways and changes, promises 21 to 28: each sentence that names an edge. */
public final class EdgesWaysTest {
    private static final int NONE = HatsDecide.NONE, BAD = HatsDecide.BAD;

    public static void main(String[] args) {
        byOfNoK();
        byWithoutHeadsOrHats();
        byPutsOnAsManyAsThereAreOfTheFewer();
        byPutsOnHatsOfNoUse();
        byIsTheFirstOfSeveralRows();
        byOfHeadsThatAreNotThere();
        byDoesNotLookAtWhatIsOnNow();
        byHasEachHatOnOnce();
        byOf6On6();
        canIsWorkOrMore();
        canOfNoWork();
        canHasOneOnEachAtMost();
        canOfEachTradeAlone();
        backOfNothing();
        backOfHatsOnNone();
        backWithABareHead();
        backOfOneHatOwnedByTwo();
        backOfRingsAndChains();
        backPassesHatsOfNobody();
        gustedIs0To5();
        gustedGoesRound();
        luckyWithoutHeads();
        luckyIsTheLeastOfSeveral();
        luckyIsBelowHowManyHeads();
        swapOfNone();
        swapOnlyIfMore();
        swapIsTheFirstOfSeveral();
        swapWithABareHead();
        swapTellsBothNumbers();
        quarrelOfNoNumber();
        quarrelMayBeBelow0();
        howWhat();
        pinchedIsOfAnotherSize();
        bareHeads();
        Check.end();
    }

    private static HatsDecide made(int heads, int hats) {
        HatsDecide x = new HatsDecide();
        for (int i = 0; i < heads; i++) {
            x.head(0);
        }
        for (int i = 0; i < hats; i++) {
            x.hat(0, 0, 0, 10, i % 5);
        }
        return x;
    }

    private static void own(HatsDecide x, int... hats) {
        for (int head = 0; head < hats.length; head++) {
            x.own(head, hats[head]);
        }
    }

    /** BY: TODAY, and what HEADS 0 .. 5 have on, as by() answers. */
    private static void by(String what, HatsDecide x, int today, int... row) {
        Check.due(what + ": TODAY", x.by(-1), today);
        for (int k = 0; k < 6; k++) {
            Check.due(what + ": HEAD " + k, x.by(k), row[k]);
        }
    }

    private static void byOfNoK() {
        for (HatsDecide x : new HatsDecide[] {made(0, 0), made(2, 2), made(6, 6)}) {
            Check.beyond("by", -1, 5, NONE, x::by);
        }
    }

    private static void byWithoutHeadsOrHats() {
        by("nothing", made(0, 0), 0, -5, -5, -5, -5, -5, -5);
        by("no HEADS", made(0, 3), 0, -5, -5, -5, -5, -5, -5);
        by("no HATS", made(3, 0), 0, -5, -5, -5, -5, -5, -5);
    }

    private static void byPutsOnAsManyAsThereAreOfTheFewer() {
        by("fewer HEADS", made(2, 4), 20, 0, 1, -5, -5, -5, -5);
        by("fewer HATS", made(4, 2), 20, -5, -5, 0, 1, -5, -5);
        by("as many", made(3, 3), 30, 0, 1, 2, -5, -5, -5);
        by("one and one", made(1, 1), 10, 0, -5, -5, -5, -5, -5);
    }

    private static void byPutsOnHatsOfNoUse() {
        HatsDecide x = Check.heads(1, 2, 3);
        x.hat(4, 0, 9, 50, 0);
        x.hat(0, 0, 0, 0, 0);
        by("all do 0", x, 0, -5, 0, 1, -5, -5, -5);
    }

    private static void byIsTheFirstOfSeveralRows() {
        by("nothing is ahead of HAT 0", made(3, 1), 10, -5, -5, 0, -5, -5, -5);
        by("HAT 0 is ahead of HAT 1", made(1, 2), 10, 0, -5, -5, -5, -5, -5);
        HatsDecide x = made(3, 2);
        Check.town(x, "suit 5 e=1&a=0;suit 5 e=0&a=1;suit 5 e=2&a=1");
        by("HEAD 0 first", x, 30, -5, 0, 1, -5, -5, -5);
        Check.town(x, "suit 5 e=0;suit 5 e=1");
        by("two that have both", x, 30, 0, 1, -5, -5, -5, -5);
        Check.town(x, "suit 5 e=0;suit 5 e=1;suit 1 e=0&a=1");
        by("the one that is more", x, 31, 1, 0, -5, -5, -5, -5);
    }

    private static void byOfHeadsThatAreNotThere() {
        HatsDecide x = made(1, 6);
        for (int k = 1; k <= 5; k++) {
            Check.due("HEAD " + k, x.by(k), -5);
        }
        Check.due("HEAD 0", x.by(0), 0);
    }

    private static void byDoesNotLookAtWhatIsOnNow() {
        HatsDecide x = made(2, 2);
        Check.town(x, "suit 5 a=1&e=0");
        by("on none", x, 25, 1, 0, -5, -5, -5, -5);
        Check.wear(x, 0, 1);
        by("on HEADS", x, 25, 1, 0, -5, -5, -5, -5);
        Check.due("HAT 0 stays", x.of(0, 6), 0);
    }

    private static void byHasEachHatOnOnce() {
        // HAT 1 on HEAD 1 too, and HAT 2 where it does 10, would come to as much as HAT 2 on HEAD 1.
        HatsDecide x = Check.heads(0, 0, 0, 0);
        x.hat(0, 0, 0, 0, 0);
        x.hat(0, 0, 0, 5, 0);
        x.hat(0, 0, 0, 10, 0);
        Check.due("town", Check.town(x, "suit 50 a=1&e=0;suit 5 a=2&e=1;suit 40 a=0&e=3"), 0);
        int[] due = {110, 1, 2, -5, 0};
        for (int k = -1; k < 4; k++) {
            Check.due("by(" + k + ")", x.by(k), due[k + 1]);
        }
    }

    private static void byOf6On6() {
        HatsDecide x = made(6, 6);
        by("all alike", x, 60, 0, 1, 2, 3, 4, 5);
        Check.town(x, "suit 1 a=5&e=0;suit 1 a=4&e=1;suit 1 a=3&e=2;suit 1 a=2&e=3;suit 2 a=0&e=4;suit 1 a=0&e=5");
        by("nearly turned round", x, 66, 5, 4, 3, 2, 0, 1);
    }

    private static void canIsWorkOrMore() {
        HatsDecide x = made(1, 1);
        Check.due("just the usual 10", x.can(), 1);
        x.skill(0, 9);
        Check.due("one less", x.can(), 0);
        Check.town(x, "work 0 9");
        Check.due("just WORK", x.can(), 1);
        Check.town(x, "work 0 8");
        Check.due("more than WORK", x.can(), 1);
    }

    private static void canOfNoWork() {
        HatsDecide x = new HatsDecide();
        Check.due("nothing", x.can(), 0);
        Check.town(x, "work 0 0;work 3 0;work 4 0;work 1 1");
        Check.due("without HEADS and HATS", x.can(), 1 + 8 + 16);
        x.hat(0, 0, 0, 50, 1);
        Check.due("without HEADS", x.can(), 1 + 8 + 16);
        x.head(0);
        Check.due("with one", x.can(), 1 + 2 + 8 + 16);
    }

    private static void canHasOneOnEachAtMost() {
        HatsDecide x = Check.heads(0);
        x.hat(0, 0, 0, 6, 0);
        x.hat(0, 0, 0, 6, 0);
        Check.due("one HEAD for two", x.can(), 0);
        x.head(0);
        Check.due("two HEADS", x.can(), 1);
        Check.town(x, "gall 6 e=1;suit 3 a=0&e=0");
        Check.due("both want HEAD 0", x.can(), 0);
        Check.town(x, "gall 6 e=1;suit 4 e=0");
        Check.due("one of them alone does it", x.can(), 1);
    }

    private static void canOfEachTradeAlone() {
        HatsDecide x = made(1, 5);
        Check.due("each by the one HEAD", x.can(), 31);
        Check.wear(x, 2);
        Check.due("whatever it has on now", x.can(), 31);
        HatsDecide more = Check.heads(0, 0);
        more.hat(0, 0, 0, 20, 0);
        more.hat(0, 0, 0, 4, 1);
        more.hat(0, 0, 0, 5, 1);
        Check.due("HATS of another TRADE do not help", more.can(), 1);
    }

    private static void backOfNothing() {
        Check.due("nothing", made(0, 0).back(), 0);
        Check.due("no HATS", made(6, 0).back(), 0);
        Check.due("none OWNS one", made(3, 3).back(), 0);
        HatsDecide x = made(3, 3);
        Check.wear(x, 2, 1, 0);
        Check.due("none OWNS what is on them", x.back(), 0);
    }

    private static void backOfHatsOnNone() {
        HatsDecide x = made(3, 3);
        own(x, 0, 1, 2);
        Check.due("all on none", x.back(), 0);
        Check.wear(x, -1, 0, -1);
        Check.due("another one on its HEAD", x.back(), 1);
        Check.wear(x, -1, 1, -1);
        Check.due("it is there", x.back(), 0);
        Check.wear(x, 0, 2, -1);
        Check.due("one is there", x.back(), 1);
    }

    private static void backWithABareHead() {
        HatsDecide x = made(2, 1);
        own(x, 0);
        Check.wear(x, 1);
        Check.due("what the other had on is nothing", x.back(), 1);
        Check.due("that CHANGE", x.change(0, 1), 1);
        Check.due("it is back", x.back(), 0);
    }

    private static void backOfOneHatOwnedByTwo() {
        HatsDecide x = made(3, 2);
        own(x, 0, 0, 1);
        Check.due("it is on none", x.back(), 0);
        Check.wear(x, 0);
        Check.due("it is on one of the two", x.back(), -5);
        Check.wear(x, 2);
        Check.due("it is on another one", x.back(), -5);
        Check.wear(x, -1, 1);
        Check.due("it is on none, one more is to go back", x.back(), 1);
        Check.wear(x, 1, 2);
        Check.due("all others are back", x.back(), -5);
        x.own(0, -1);
        Check.due("one of them gives it up", x.back(), 0);
        own(x, 1, 1, 1);
        Check.due("by three", x.back(), -5);
    }

    private static void backOfRingsAndChains() {
        HatsDecide x = made(6, 6);
        own(x, 0, 1, 2, 3, 4, 5);
        int[][] rows = {{0, 1, 2, 3, 4, 5}, {1, 0, 2, 3, 4, 5}, {1, 2, 0, 4, 3, 5}, {1, 0, 3, 2, 5, 4},
            {1, 2, 0, 4, 5, 3}, {1, 2, 3, 4, 5, 0}, {1, -1, 2, 3, 4, 5}, {1, 2, -1, 4, 5, -1}};
        int[] due = {0, 1, 3, 3, 4, 5, 1, 4};
        for (int i = 0; i < rows.length; i++) {
            Check.wear(x, rows[i]);
            Check.due("row " + i, x.back(), due[i]);
        }
    }

    private static void backPassesHatsOfNobody() {
        HatsDecide x = made(3, 3);
        own(x, 0);
        Check.wear(x, 2, 0, 1);
        Check.due("one CHANGE, whatever becomes of the others", x.back(), 1);
        own(x, 0, 1);
        Check.due("a chain of two", x.back(), 2);
        own(x, 0, 1, 2);
        Check.due("a ring of three", x.back(), 2);
    }

    private static void gustedIs0To5() {
        for (HatsDecide x : new HatsDecide[] {made(0, 0), made(2, 2)}) {
            Check.beyond("gusted", 0, 5, BAD, x::gusted);
            for (int g = 0; g <= 5; g++) {
                Check.due("nothing on, gusted(" + g + ")", x.gusted(g), 0);
            }
        }
    }

    private static void gustedGoesRound() {
        HatsDecide x = made(3, 1);
        Check.town(x, "suit 1 e=0;suit 2 e=1;suit 4 e=2");
        Check.wear(x, 2);
        int[] due = {14, 11, 12, 14, 11, 12};
        for (int g = 0; g <= 5; g++) {
            Check.due("gusted(" + g + ")", x.gusted(g), due[g]);
        }
        Check.due("it stays", x.of(0, 6), 2);
        HatsDecide one = made(1, 1);
        Check.wear(one, 0);
        Check.due("on the one HEAD there is", one.gusted(5), 10);
    }

    private static void luckyWithoutHeads() {
        Check.due("nothing", made(0, 0).lucky(), -5);
        Check.due("HATS alone", made(0, 2).lucky(), -5);
        Check.due("HEADS alone", made(2, 0).lucky(), 0);
        Check.due("one HEAD", made(1, 1).lucky(), 0);
    }

    private static void luckyIsTheLeastOfSeveral() {
        HatsDecide x = made(4, 1);
        Check.wear(x, 1);
        Check.due("all alike", x.lucky(), 0);
        Check.town(x, "suit 1 e=3|e=0");
        Check.due("2 and 3", x.lucky(), 2);
        Check.town(x, "suit 1 e=1|e=2");
        Check.due("0 and 1", x.lucky(), 0);
        Check.town(x, "suit 1 e=0");
        Check.due("3 alone", x.lucky(), 3);
    }

    private static void luckyIsBelowHowManyHeads() {
        for (int heads = 1; heads <= 6; heads++) {
            HatsDecide x = made(heads, 1);
            Check.town(x, "suit 1 e=" + (heads - 1));
            Check.wear(x, 0);
            Check.due("the greatest of " + heads, x.lucky(), heads - 1);
        }
    }

    private static void swapOfNone() {
        Check.due("nothing", made(0, 0).swap(), -5);
        HatsDecide one = made(1, 1);
        Check.wear(one, 0);
        Check.due("one HEAD", one.swap(), -5);
        Check.due("nothing on", made(6, 6).swap(), -5);
    }

    private static void swapOnlyIfMore() {
        HatsDecide x = made(2, 2);
        Check.wear(x, 0, 1);
        Check.due("alike", x.swap(), -5);
        Check.town(x, "suit 1 a=0&e=0");
        Check.due("less", x.swap(), -5);
        Check.town(x, "suit 1 a=0&e=1");
        Check.due("more by 1", x.swap(), 1);
        Check.town(x, "suit 1 a=0&e=1;suit 1 a=1&e=1");
        Check.due("one more, one less", x.swap(), -5);
    }

    private static void swapIsTheFirstOfSeveral() {
        HatsDecide x = made(4, 4);
        Check.wear(x, 0, 1, 2, 3);
        Check.town(x, "suit 3 a=1&e=2;suit 3 a=1&e=3;suit 3 a=0&e=3");
        Check.due("03, 12, 13", x.swap(), 3);
        Check.town(x, "suit 3 a=1&e=2;suit 3 a=1&e=3;suit 2 a=0&e=3");
        Check.due("12, 13", x.swap(), 12);
        Check.town(x, "suit 3 a=1&e=2;suit 4 a=1&e=3;suit 2 a=0&e=3");
        Check.due("13", x.swap(), 13);
    }

    private static void swapWithABareHead() {
        HatsDecide x = made(3, 1);
        Check.town(x, "suit 1 e=1");
        Check.wear(x, 2);
        Check.due("to a bare one", x.swap(), 12);
        Check.wear(x, 0);
        Check.due("from the lesser one", x.swap(), 1);
    }

    private static void swapTellsBothNumbers() {
        for (int one = 0; one < 6; one++) {
            for (int other = one + 1; other < 6; other++) {
                HatsDecide x = made(6, 1);
                Check.town(x, "suit 1 e=" + one);
                Check.wear(x, other);
                Check.due("onto the lesser", x.swap(), 10 * one + other);
                Check.town(x, "suit 1 e=" + other);
                Check.wear(x, one);
                Check.due("onto the greater", x.swap(), 10 * one + other);
            }
        }
    }

    private static void quarrelOfNoNumber() {
        HatsDecide x = made(2, 2);
        Check.beyond("one", 0, 1, -10001, n -> x.quarrel(n, 0, 0));
        Check.beyond("other", 0, 1, -10001, n -> x.quarrel(0, n, 0));
        Check.beyond("HEAD", 0, 1, -10001, n -> x.quarrel(0, 1, n));
        Check.beyond("HEAD, one is both", 0, 1, -10001, n -> x.quarrel(1, 1, n));
        Check.beyond("one is both, and none", 0, 1, -10001, n -> x.quarrel(n, n, 0));
        Check.due("one is both", x.quarrel(0, 0, 1), -10002);
    }

    private static void quarrelMayBeBelow0() {
        HatsDecide x = Check.heads(0);
        x.hat(0, 0, 0, 0, 0);
        x.hat(6, 9, 0, 50, 0);
        x.row(1, 0, 9);
        Check.town(x, "suit 99 a=1;suit 99 a=1;gall 1 a=0");
        Check.due("the lesser first", x.quarrel(0, 1, 0), -266);
        Check.due("the greater first", x.quarrel(1, 0, 0), 266);
        HatsDecide alike = made(1, 2);
        Check.due("alike", alike.quarrel(0, 1, 0), 0);
        Check.town(alike, "suit 1 a=1");
        Check.due("-1 is no refusal", alike.quarrel(0, 1, 0), -1);
        Check.town(alike, "suit 2 a=1");
        Check.due("nor is -2", alike.quarrel(0, 1, 0), -2);
    }

    private static void howWhat() {
        for (HatsDecide x : new HatsDecide[] {made(0, 0), made(2, 2)}) {
            Check.beyond("how", 0, 1, NONE, x::how);
        }
    }

    private static void pinchedIsOfAnotherSize() {
        HatsDecide x = Check.heads(0, 1, 9);
        x.hat(0, 0, 0, 0, 0);
        x.hat(0, 0, 2, 0, 0);
        x.hat(0, 0, 9, 0, 0);
        Check.due("on none", x.how(0), 0);
        Check.wear(x, 0, 1, 2);
        Check.due("one is too great by 1", x.how(0), 1);
        Check.wear(x, 1, 0, -1);
        Check.due("too small and too great", x.how(0), 2);
        Check.wear(x, 1, 2, 0);
        Check.due("all three", x.how(0), 3);
    }

    private static void bareHeads() {
        Check.due("no HEADS", made(0, 3).how(1), 0);
        HatsDecide x = made(6, 6);
        Check.due("all bare", x.how(1), 63);
        for (int i = 0; i < 6; i++) {
            Check.wear(x, i);
            Check.due("all but " + i, x.how(1), 63 - (1 << i));
        }
        Check.wear(x, 5, 4, 3, 2, 1, 0);
        Check.due("none bare", x.how(1), 0);
    }
}
