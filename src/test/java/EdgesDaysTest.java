/** DAYS, GUSTS, CHANGES and what is done, promises 13 to 20: each sentence that names an edge. */
public final class EdgesDaysTest {
    private static final int NONE = HatsDecide.NONE, BAD = HatsDecide.BAD, STATE = HatsDecide.STATE;

    public static void main(String[] args) {
        aDayWithoutAnything();
        aDayIsDoneAsAllWasAheadOfIt();
        onlyWhatIsOnAHeadDoesAndIsUsed();
        doneIs999999AtMost();
        doneOfEachTradeHasItsOwnEnd();
        dayIs9999AtMost();
        anObjectIsGoodFor512Calls();
        gustIs0To5();
        gustWithoutHeads();
        gustGoesRoundModuloHeads();
        gustIsAllAtOnce();
        gustCountsHatsOnHeads();
        changeOfNothing();
        changeOfNoNumberOrOneHead();
        todayOfATradeOrAll();
        todayOfNothing();
        enoughIsWorkOrMore();
        enoughOfNoWork();
        bestOfSeveralIsTheFirst();
        bestWithoutHeads();
        bestWhereverItIsNow();
        onOf0To30Days();
        onGoesBeyond999999();
        onGoesOnFromHowAllIs();
        lastsIs0To30();
        lastsByNone();
        lastsIsTheFewest();
        lastsOfNoNumber();
        Check.end();
    }

    /** So many HEADS of SIZE 0 with a HAT of SKILL 10 on each; HAT i is of TRADE i (5: of 0). */
    private static HatsDecide tens(int heads) {
        HatsDecide x = new HatsDecide();
        for (int i = 0; i < heads; i++) {
            x.head(0);
            x.hat(0, 0, 0, 10, i % 5);
            x.put(i, i);
        }
        return x;
    }

    private static void aDayWithoutAnything() {
        HatsDecide x = new HatsDecide();
        Check.due("nothing at all", x.day(), 0);
        Check.due("DAY", x.told(0), 1);
        x.hat(0, 0, 0, 50, 0);
        Check.due("no HEADS", x.day(), 0);
        x.head(0);
        Check.due("nothing on", x.day(), 0);
        Check.due("DAY", x.told(0), 3);
        Check.due("DONE", x.told(10), 0);
        Check.due("USED", x.of(0, 5), 0);
    }

    private static void aDayIsDoneAsAllWasAheadOfIt() {
        HatsDecide x = Check.heads(0);
        x.hat(6, 0, 0, 10, 3);
        x.put(0, 0);
        for (int part = 0; part < 4; part++) {
            x.row(0, part, part + 1);
        }
        Check.town(x, "suit 20 u=0;suit 40 d=1");
        int[] due = {31, 52, 13, 14, 11};
        int done = 0;
        for (int day = 0; day < due.length; day++) {
            Check.due("DAY " + day, x.day(), due[day]);
            done += due[day];
            Check.due("DONE by then", x.told(13), done);
        }
    }

    private static void onlyWhatIsOnAHeadDoesAndIsUsed() {
        HatsDecide x = tens(3);
        x.put(1, -1);
        Check.due("day", x.day(), 20);
        int[] due = {1, 0, 1};
        for (int i = 0; i < 3; i++) {
            Check.due("USED of " + i, x.of(i, 5), due[i]);
            Check.due("DONE of " + i, x.told(10 + i), 10 * due[i]);
        }
    }

    /** Six HATS of TRADE 2 that do 4329 together: 999999 on 231 DAYS. */
    private static HatsDecide busy() {
        HatsDecide x = Check.heads(0, 0, 0, 0, 0, 0);
        int[] skills = {50, 50, 50, 21, 0, 0};
        for (int i = 0; i < 6; i++) {
            x.hat(0, 0, 0, skills[i], 2);
            x.put(i, i);
        }
        Check.town(x, "suit 99 a<6" + ";suit 99 a<6".repeat(6));
        return x;
    }

    private static void doneIs999999AtMost() {
        HatsDecide x = busy();
        for (int day = 1; day <= 230; day++) {
            x.day();
        }
        Check.due("DONE", x.told(12), 230 * 4329);
        Check.due("a DAY", x.day(), 4329);
        Check.due("just 999999", x.told(12), 999999);
        Check.due("TODAY as it was, also then", x.day(), 4329);
        Check.due("no more", x.told(12), 999999);
        HatsDecide more = busy();
        more.skill(5, 1);
        for (int day = 1; day <= 230; day++) {
            more.day();
        }
        Check.due("DONE, by 1 more each DAY", more.told(12), 230 * 4330);
        more.day();
        Check.due("it would be more", more.told(12), 999999);
        HatsDecide less = busy();
        less.day();
        less.skill(0, 49);
        for (int day = 2; day <= 231; day++) {
            less.day();
        }
        Check.due("it is less", less.told(12), 999999 - 230);
        less.day();
        Check.due("it goes over the end", less.told(12), 999999);
    }

    private static void doneOfEachTradeHasItsOwnEnd() {
        HatsDecide x = busy();
        for (int day = 1; day <= 231; day++) {
            x.day();
        }
        for (int trade = 0; trade < 5; trade++) {
            Check.due("DONE of " + trade, x.told(10 + trade), trade == 2 ? 999999 : 0);
        }
        x.image();
        x.undo();
        Check.due("still at its end", x.told(12), 999999);
        Check.due("ON goes beyond it", x.on(2, 30), 30 * 4329);
        Check.due("ON of another", x.on(1, 30), 0);
    }

    /** No 512 calls come there, but the document tells the end: so it is looked at all the same. */
    private static void dayIs9999AtMost() {
        HatsDecide x = Check.heads(0, 0);
        x.hat(2, 0, 0, 50, 0);
        x.hat(6, 0, 0, 0, 1);
        x.row(1, 3, 5);
        x.put(0, 0);
        x.put(1, 1);
        for (int day = 0; day < 9998; day++) {
            x.day();
        }
        Check.due("the last one but one", x.day(), 50);
        Check.due("DAY", x.told(0), 9999);
        Check.due("USED", x.of(0, 5), 9999);
        Check.due("DONE", x.told(10), 499950);
        Check.due("no DAY more", x.day(), STATE);
        Check.due("DAY stays", x.told(0), 9999);
        Check.due("USED stays", x.of(0, 5), 9999);
        Check.due("DONE stays", x.told(10), 499950);
        // 9999 is 3, modulo 4 and modulo 7; what is asked goes on beyond.
        Check.due("ON beyond, by DAYS", x.on(1, 9), 15);
        Check.town(x, "suit 1 d=4;suit 2 u=0");
        Check.due("ON beyond, by DAYS modulo 7 and USED modulo 10", x.on(1, 2), 8);
        Check.town(x, "moth 1;work 0 1;work 1 1");
        Check.due("all eaten", x.today(0), 0);
        Check.due("LASTS beyond", x.lasts(1), 1);
        Check.due("LASTS no DAY", x.lasts(0), 0);
    }

    private static void anObjectIsGoodFor512Calls() {
        HatsDecide x = tens(1);
        for (int call = 4; call <= 511; call++) {
            Check.due("call " + call, x.day(), 10);
        }
        Check.due("the 512th call", x.told(10), 5080);
    }

    private static void gustIs0To5() {
        HatsDecide x = tens(6);
        Check.beyond("gust", 0, 5, BAD, x::gust);
        for (int i = 0; i < 6; i++) {
            Check.due("HAT " + i + " stays", x.of(i, 6), i);
        }
        Check.due("gust(0)", x.gust(0), 6);
        Check.due("gust(5)", x.gust(5), 6);
        for (int i = 0; i < 6; i++) {
            Check.due("HAT " + i + " by 5", x.of(i, 6), (i + 5) % 6);
        }
    }

    private static void gustWithoutHeads() {
        HatsDecide x = new HatsDecide();
        x.hat(0, 0, 0, 0, 0);
        for (int g = 0; g <= 5; g++) {
            Check.due("gust(" + g + ")", x.gust(g), 0);
        }
        Check.beyond("gust", 0, 5, BAD, x::gust);
        Check.due("on none", x.of(0, 6), -5);
    }

    private static void gustGoesRoundModuloHeads() {
        for (int heads = 1; heads <= 6; heads++) {
            for (int g = 0; g <= 5; g++) {
                for (int head = 0; head < heads; head++) {
                    HatsDecide x = new HatsDecide();
                    for (int i = 0; i < heads; i++) {
                        x.head(0);
                    }
                    x.hat(0, 0, 0, 0, 0);
                    x.put(0, head);
                    String call = "gust(" + g + ") from " + head + " of " + heads;
                    Check.due(call, x.gust(g), 1);
                    Check.due(call + " to", x.of(0, 6), (head + g) % heads);
                    Check.due(call + ": what that HEAD has on", x.at((head + g) % heads, 1), 0);
                }
            }
        }
    }

    private static void gustIsAllAtOnce() {
        HatsDecide x = tens(4);
        x.put(2, -1);
        Check.due("gust(1)", x.gust(1), 3);
        int[] due = {3, 0, 1, -5};
        for (int head = 0; head < 4; head++) {
            Check.due("HEAD " + head, x.at(head, 1), due[head]);
        }
        Check.due("gust(6 - 1)", x.gust(5), 3);
        int[] then = {-5, 3, 0, 1};
        for (int head = 0; head < 4; head++) {
            Check.due("then HEAD " + head, x.at(head, 1), then[head]);
        }
    }

    private static void gustCountsHatsOnHeads() {
        HatsDecide x = tens(3);
        x.hat(0, 0, 0, 0, 0);
        Check.due("those on none do not go", x.gust(2), 3);
        Check.due("it stays on none", x.of(3, 6), -5);
        for (int hat = 0; hat < 3; hat++) {
            x.put(hat, -1);
        }
        Check.due("none on HEADS", x.gust(2), 0);
    }

    private static void changeOfNothing() {
        HatsDecide x = Check.heads(0, 0, 0);
        Check.due("two bare ones", x.change(0, 2), 1);
        x.hat(0, 0, 0, 0, 0);
        x.put(0, 0);
        Check.due("with a bare one", x.change(0, 2), 1);
        Check.due("it has nothing on", x.at(0, 1), -5);
        Check.due("the other has it on", x.at(2, 1), 0);
        Check.due("a bare one with it", x.change(1, 2), 1);
        Check.due("on whom", x.of(0, 6), 1);
    }

    private static void changeOfNoNumberOrOneHead() {
        HatsDecide x = tens(2);
        Check.beyond("one", 0, 1, NONE, n -> x.change(n, 0));
        Check.beyond("other", 0, 1, NONE, n -> x.change(1, n));
        Check.beyond("both", 0, 1, NONE, n -> x.change(n, n));
        Check.due("one is both", x.change(0, 0), BAD);
        Check.due("one is both", x.change(1, 1), BAD);
        Check.due("HAT 0 stays", x.of(0, 6), 0);
        HatsDecide none = new HatsDecide();
        Check.due("no HEADS", none.change(0, 0), NONE);
    }

    private static void todayOfATradeOrAll() {
        HatsDecide x = tens(6);
        Check.beyond("today", -1, 4, NONE, x::today);
        Check.due("all", x.today(-1), 60);
        for (int trade = 0; trade < 5; trade++) {
            Check.due("TRADE " + trade, x.today(trade), trade == 0 ? 20 : 10);
        }
    }

    private static void todayOfNothing() {
        HatsDecide x = new HatsDecide();
        Check.due("all of nothing", x.today(-1), 0);
        x.hat(0, 0, 0, 50, 0);
        Check.due("no HEADS", x.today(0), 0);
        x.head(0);
        Check.due("on none", x.today(-1), 0);
    }

    private static void enoughIsWorkOrMore() {
        HatsDecide x = tens(5);
        Check.due("just the usual 10", x.enough(), 31);
        x.skill(3, 9);
        Check.due("one less", x.enough(), 23);
        Check.town(x, "work 0 9;work 1 10;work 2 11;work 3 9;work 4 99");
        Check.due("more, alike, less, alike, less", x.enough(), 1 + 2 + 8);
    }

    private static void enoughOfNoWork() {
        HatsDecide x = new HatsDecide();
        Check.due("nothing", x.enough(), 0);
        Check.town(x, "work 0 0;work 4 0;work 2 1");
        Check.due("WORK 0 wants nothing", x.enough(), 17);
    }

    private static void bestOfSeveralIsTheFirst() {
        HatsDecide x = Check.heads(9, 5, 3, 5, 5);
        x.hat(1, 0, 5, 20, 0);
        x.hat(4, 0, 0, 20, 0);
        Check.due("of three", x.best(0), 1);
        Check.due("of all, with 0", x.best(1), 0);
        Check.town(x, "suit 1 e=4;suit 1 a=1&e>2");
        Check.due("one more by FITS", x.best(0), 4);
        Check.due("FITS do not help a STIFF one", x.best(1), 0);
    }

    private static void bestWithoutHeads() {
        HatsDecide x = new HatsDecide();
        Check.beyond("best", 0, -1, NONE, x::best);
        x.hat(0, 0, 0, 50, 0);
        Check.due("no HEADS", x.best(0), -5);
        Check.beyond("best", 0, 0, NONE, x::best);
        x.head(0);
        Check.due("one", x.best(0), 0);
    }

    private static void bestWhereverItIsNow() {
        HatsDecide x = Check.heads(1, 2);
        x.hat(1, 0, 1, 20, 0);
        x.hat(1, 0, 1, 20, 0);
        x.put(0, 1);
        x.put(1, 0);
        Check.due("on another, that has one on", x.best(0), 0);
        Check.due("where it is", x.best(1), 0);
    }

    private static void onOf0To30Days() {
        HatsDecide x = tens(2);
        Check.beyond("n", 0, 30, BAD, n -> x.on(0, n));
        Check.beyond("TRADE", 0, 4, NONE, n -> x.on(n, 1));
        Check.due("0 DAYS", x.on(0, 0), 0);
        Check.due("1 DAY", x.on(0, 1), 10);
        Check.due("30 DAYS", x.on(1, 30), 300);
        Check.due("nothing of a TRADE", x.on(4, 30), 0);
        Check.due("DAY stays", x.told(0), 0);
        Check.due("DONE stays", x.told(10), 0);
    }

    private static void onGoesBeyond999999() {
        HatsDecide x = busy();
        for (int day = 1; day <= 225; day++) {
            x.day();
        }
        Check.due("over the end", x.on(2, 30), 30 * 4329);
        Check.due("DONE stays", x.told(12), 225 * 4329);
    }

    private static void onGoesOnFromHowAllIs() {
        HatsDecide x = Check.heads(0, 0);
        x.hat(2, 0, 0, 50, 0);
        x.hat(6, 0, 0, 0, 1);
        for (int part = 0; part < 4; part++) {
            x.row(1, part, 1 + part);
        }
        Check.town(x, "moth 4");
        x.put(0, 0);
        x.put(1, 1);
        x.day();
        x.day();
        x.day();
        Check.due("eaten since the first DAY", x.on(0, 3), 47 + 46 + 45);
        Check.due("ROW from DAY 3 on", x.on(1, 5), 4 + 1 + 2 + 3 + 4);
    }

    private static void lastsIs0To30() {
        HatsDecide x = Check.heads(0);
        x.hat(2, 0, 0, 9, 0);
        x.put(0, 0);
        Check.town(x, "moth 4");
        Check.due("below WORK now", x.lasts(0), 0);
        for (int days = 1; days <= 30; days++) {
            x.skill(0, 9 + days);
            Check.due("below WORK behind " + days, x.lasts(0), days);
        }
        x.skill(0, 40);
        Check.due("behind 31 only", x.lasts(0), -5);
    }

    private static void lastsByNone() {
        HatsDecide x = tens(1);
        Check.due("just WORK, always", x.lasts(0), -5);
        Check.due("nothing done", x.lasts(1), 0);
        Check.town(x, "work 1 0");
        Check.due("WORK 0 is never too much", x.lasts(1), -5);
    }

    private static void lastsIsTheFewest() {
        HatsDecide x = tens(1);
        Check.town(x, "gall 1 d=2|d=5");
        Check.due("the first of two", x.lasts(0), 2);
        x.day();
        x.day();
        x.day();
        Check.due("the next one", x.lasts(0), 2);
        x.day();
        x.day();
        Check.due("now", x.lasts(0), 0);
        x.day();
        Check.due("in the next seven DAYS", x.lasts(0), 3);
    }

    private static void lastsOfNoNumber() {
        HatsDecide x = tens(5);
        Check.beyond("lasts", 0, 4, NONE, x::lasts);
        Check.due("not of all", x.lasts(-1), NONE);
    }
}
