/** Promises 13 to 20: days, gusts, changes, and what is done. */
public final class DaysAndDoneTest {
    private static final int NONE = HatsDecide.NONE, BAD = HatsDecide.BAD;

    public static void main(String[] args) {
        day();
        doneHasAnEnd();
        gust();
        change();
        today();
        enough();
        best();
        on();
        lasts();
        asItIs();
        Check.end();
    }

    /** HEADS of SIZES 1, 2, 3; HATS of TRADES 0, 1, 1, 4 that do 10, 20, 30, 40 anywhere. */
    private static HatsDecide plain() {
        HatsDecide x = Check.heads(1, 2, 3);
        x.hat(0, 0, 0, 10, 0);
        x.hat(0, 0, 0, 20, 1);
        x.hat(0, 0, 0, 30, 1);
        x.hat(0, 0, 0, 40, 4);
        return x;
    }

    private static void day() {
        HatsDecide none = new HatsDecide();
        Check.due("a day without anything", none.day(), 0);
        Check.due("it goes", none.told(0), 1);
        HatsDecide x = plain();
        Check.wear(x, 0, 1, 2, -1);
        Check.due("day", x.day(), 60);
        x.put(2, -1);
        x.put(3, 2);
        Check.due("next day", x.day(), 70);
        int[] done = {20, 70, 0, 0, 40};
        int[] used = {2, 2, 1, 1};
        for (int i = 0; i < 5; i++) {
            Check.due("DONE of " + i, x.told(10 + i), done[i]);
        }
        for (int i = 0; i < 4; i++) {
            Check.due("USED of " + i, x.of(i, 5), used[i]);
        }
        Check.due("DAY", x.told(0), 2);
        // What is done, is done as it was ahead of the day.
        HatsDecide worn = Check.heads(0);
        worn.hat(2, 0, 0, 20, 0);
        worn.put(0, 0);
        Check.town(worn, "moth 20");
        Check.due("day 0", worn.day(), 20);
        Check.due("day 1", worn.day(), 15);
        Check.due("day 2", worn.day(), 10);
        Check.due("DONE", worn.told(10), 45);
    }

    private static void doneHasAnEnd() {
        HatsDecide x = Check.heads(0, 0, 0, 0, 0, 0);
        Check.town(x, "suit 99 a<9;suit 99 a<9;suit 99 a<9;suit 99 a<9;suit 99 a<9;suit 99 a<9;suit 99 a<9;suit 99 a<9");
        for (int i = 0; i < 6; i++) {
            x.hat(3, 9, 0, 50, 2);
            x.put(i, i);
        }
        int all = 6 * (50 + 8 * 99 + 9);
        for (int day = 1; day <= 200; day++) {
            x.day();
            if (day % 5 == 0) {
                Check.due("DONE on day " + day, x.told(12), Math.min(999999, day * all));
            }
        }
        Check.due("DONE more is told beyond", x.on(2, 30), 30 * all);
    }

    private static void gust() {
        HatsDecide x = plain();
        Check.due("on none", x.gust(1), 0);
        Check.wear(x, 0, -1, 2, -1);
        Check.due("gust of 1", x.gust(1), 2);
        Check.due("0 on 1", x.of(0, 6), 1);
        Check.due("2 on 0", x.of(2, 6), 0);
        Check.due("1 on none", x.of(1, 6), -5);
        Check.due("head 2 is bare", x.at(2, 1), -5);
        Check.due("gust of 5", x.gust(5), 2);
        Check.due("0 on 0", x.of(0, 6), 0);
        Check.due("2 on 2", x.of(2, 6), 2);
        Check.due("gust of 0", x.gust(0), 2);
        Check.due("0 stays", x.of(0, 6), 0);
        Check.due("gust of 6", x.gust(6), BAD);
        Check.due("gust of -1", x.gust(-1), BAD);
        HatsDecide none = new HatsDecide();
        Check.due("no heads", none.gust(5), 0);
        Check.due("no heads, BAD", none.gust(6), BAD);
    }

    private static void change() {
        HatsDecide x = plain();
        Check.wear(x, 0, 1);
        Check.due("two that have something", x.change(0, 1), 1);
        Check.due("head 0", x.at(0, 1), 1);
        Check.due("head 1", x.at(1, 1), 0);
        Check.due("one that has nothing", x.change(1, 2), 1);
        Check.due("head 1 is bare", x.at(1, 1), -5);
        Check.due("head 2", x.at(2, 1), 0);
        Check.due("one is both", x.change(1, 1), BAD);
        Check.due("no head 3", x.change(3, 0), NONE);
        Check.due("nor as the other", x.change(0, 3), NONE);
        Check.due("NONE ahead of BAD", x.change(-1, -1), NONE);
    }

    private static void today() {
        HatsDecide x = plain();
        Check.due("nothing on", x.today(-1), 0);
        Check.wear(x, -1, 0, 1, 2);
        int[] today = {0, 50, 0, 0, 40};
        for (int trade = 0; trade < 5; trade++) {
            Check.due("today of " + trade, x.today(trade), today[trade]);
        }
        Check.due("today of all", x.today(-1), 90);
        Check.due("trade 5", x.today(5), NONE);
        Check.due("trade -2", x.today(-2), NONE);
    }

    private static void enough() {
        HatsDecide x = plain();
        Check.due("none", x.enough(), 0);
        Check.wear(x, 0, 1, 2, -1);
        Check.due("just as much", x.enough(), 3);
        Check.town(x, "work 0 11;work 1 50;work 2 0;work 4 1");
        Check.due("by work", x.enough(), 6);
    }

    private static void best() {
        HatsDecide none = new HatsDecide();
        none.hat(0, 0, 0, 0, 0);
        Check.due("no heads", none.best(0), -5);
        Check.due("no hat", none.best(1), NONE);
        Check.due("hat -1", none.best(-1), NONE);
        HatsDecide x = Check.heads(1, 4, 6, 4);
        x.hat(1, 0, 5, 20, 0);
        x.hat(0, 0, 5, 20, 0);
        x.hat(1, 0, 9, 2, 0);
        Check.due("the first of several", x.best(0), 1);
        Check.due("all alike", x.best(1), 0);
        Check.due("all 0", x.best(2), 0);
        Check.town(x, "suit 1 e=3");
        Check.due("greatest", x.best(0), 3);
    }

    private static void on() {
        HatsDecide x = Check.heads(0, 0);
        x.hat(2, 0, 0, 30, 1);
        x.hat(6, 1, 0, 0, 2);
        x.row(1, 1, 5);
        Check.town(x, "moth 8");
        Check.wear(x, 0, 1);
        Check.due("0 days", x.on(1, 0), 0);
        Check.due("1 day", x.on(1, 1), 30);
        Check.due("3 days", x.on(1, 3), 30 + 28 + 26);
        Check.due("30 days", x.on(1, 30), 15 * 16);
        Check.due("by the row", x.on(2, 6), 6 + 5 + 5);
        x.day();
        Check.due("from how all is", x.on(1, 2), 28 + 26);
        Check.due("by the row then", x.on(2, 6), 6 + 5 + 5);
        Check.due("nothing changed", x.told(0) * 1000 + x.of(0, 5), 1001);
        Check.due("31 days", x.on(0, 31), BAD);
        Check.due("-1 days", x.on(0, -1), BAD);
        Check.due("trade 5", x.on(5, 31), NONE);
        Check.due("trade -1", x.on(-1, 0), NONE);
        x.put(0, -1);
        Check.due("not worn", x.on(1, 30), 0);
    }

    private static void lasts() {
        HatsDecide x = Check.heads(0);
        x.hat(2, 0, 0, 39, 0);
        x.put(0, 0);
        Check.due("by none", x.lasts(0), -5);
        Check.due("now", x.lasts(1), 0);
        Check.town(x, "moth 4");
        Check.due("30 days", x.lasts(0), 30);
        x.skill(0, 40);
        Check.due("31 days", x.lasts(0), -5);
        x.day();
        Check.due("a day later", x.lasts(0), 30);
        Check.town(x, "moth 4;work 0 38;work 1 0");
        Check.due("by work", x.lasts(0), 2);
        Check.due("of no work", x.lasts(1), -5);
        Check.due("trade 5", x.lasts(5), NONE);
        Check.due("trade -1", x.lasts(-1), NONE);
        // A TRADE may be below WORK for a day only.
        Check.town(x, "gall 40 d=3");
        Check.due("on a day", x.lasts(0), 2);
    }

    /** FITS by HEAD, by DAY and by USED: all is asked of where and when it is now. */
    private static void asItIs() {
        HatsDecide x = Check.heads(0, 0, 0);
        x.hat(0, 0, 0, 10, 0);
        x.hat(0, 0, 0, 10, 1);
        x.hat(0, 0, 0, 10, 1);
        Check.town(x, "suit 1 e=0;suit 2 e=1;suit 4 e=2;suit 8 d=1;suit 16 u=0&a=0;work 0 27;work 1 24");
        Check.wear(x, 0, 2);
        Check.due("today of 0", x.today(0), 27);
        Check.due("today of 1", x.today(1), 14);
        Check.due("today of all", x.today(-1), 41);
        Check.due("enough", x.enough(), 1);
        Check.due("best", x.best(1), 2);
        Check.due("on a day", x.on(1, 1), 14);
        Check.due("on three days", x.on(1, 3), 14 + 22 + 14);
        Check.due("on three days, used", x.on(0, 3), 27 + 19 + 11);
        Check.due("lasts", x.lasts(0), 1);
        Check.due("lasts no day", x.lasts(1), 0);
        Check.due("a day", x.day(), 41);
        Check.due("DONE of 0", x.told(10), 27);
        Check.due("DONE of 1", x.told(11), 14);
        Check.due("today, a day later", x.today(-1), 19 + 22);
        Check.due("another day", x.day(), 41);
        Check.due("today, two days later", x.today(-1), 11 + 14);
    }
}
