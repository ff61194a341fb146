/** Promises 21 to 28: ways, changes. */
public final class WaysTest {
    private static final int NONE = HatsDecide.NONE, BAD = HatsDecide.BAD;

    public static void main(String[] args) {
        by();
        can();
        back();
        gusted();
        lucky();
        swap();
        quarrel();
        how();
        asItIs();
        Check.end();
    }

    private static void row(String what, HatsDecide x, int... row) {
        for (int k = 0; k < 6; k++) {
            Check.due(what + ", head " + k, x.by(k), k < row.length ? row[k] : -5);
        }
    }

    private static void by() {
        HatsDecide x = new HatsDecide();
        Check.due("of nothing", x.by(-1), 0);
        row("of nothing", x);
        Check.due("k 6", x.by(6), NONE);
        Check.due("k -2", x.by(-2), NONE);
        x.hat(0, 0, 0, 10, 0);
        Check.due("without heads", x.by(-1), 0);
        row("without heads", x);
        x = Check.heads(0, 0, 0);
        Check.due("without hats", x.by(-1), 0);
        row("without hats", x);
        x.hat(0, 0, 0, 10, 0);
        row("the first row has nothing ahead", x, -5, -5, 0);
        x.hat(0, 0, 0, 10, 1);
        row("two alike", x, -5, 0, 1);
        x.hat(0, 0, 0, 10, 2);
        x.hat(0, 0, 0, 10, 3);
        row("more hats than heads", x, 0, 1, 2);
        Check.due("as many as heads", x.by(-1), 30);
        Check.town(x, "suit 5 a=3&e=1;suit 2 a=2&e=0");
        row("by FITS", x, 2, 3, 0);
        Check.due("by FITS", x.by(-1), 37);
        // What is on HEADS now does not matter, and hats that do nothing are put on too.
        Check.wear(x, 2, 1, 0);
        row("as before", x, 2, 3, 0);
        x = Check.heads(0, 5);
        x.hat(4, 0, 9, 50, 0);
        row("of no use", x, -5, 0);
        Check.due("of no use", x.by(-1), 0);
    }

    private static void can() {
        HatsDecide x = Check.heads(0, 0);
        Check.due("none", x.can(), 0);
        x.hat(0, 0, 0, 9, 0);
        x.hat(0, 0, 0, 5, 1);
        x.hat(0, 0, 0, 5, 1);
        x.hat(0, 0, 0, 50, 2);
        Check.due("not on heads", x.can(), 6);
        x.hat(0, 0, 0, 4, 3);
        x.hat(0, 0, 0, 3, 3);
        Check.town(x, "suit 3 a=4&e=0;suit 3 a=5&e=0;work 0 9;work 3 11;work 4 0");
        Check.due("each head has one", x.can(), 1 + 2 + 4 + 16);
        Check.town(x, "suit 3 a=4&e=0;suit 3 a=5&e=0;work 3 10");
        Check.due("as much as can be", x.can(), 2 + 4 + 8);
        x = Check.heads(0);
        x.hat(0, 0, 0, 5, 1);
        x.hat(0, 0, 0, 5, 1);
        Check.due("too few heads", x.can(), 0);
    }

    private static void own(HatsDecide x, int... hats) {
        for (int head = 0; head < hats.length; head++) {
            x.own(head, hats[head]);
        }
    }

    private static void back() {
        HatsDecide x = Check.heads(0, 0, 0, 0, 0, 0);
        Check.due("no hats", x.back(), 0);
        for (int i = 0; i < 6; i++) {
            x.hat(0, 0, 0, 0, 0);
        }
        own(x, 0, 1, 2, 3, 4, 5);
        Check.due("none on heads", x.back(), 0);
        Check.wear(x, 0, 1, 2, 3, 4, 5);
        Check.due("all right", x.back(), 0);
        Check.wear(x, 1, 2, 3, 4, 5, 0);
        Check.due("one ring", x.back(), 5);
        Check.wear(x, 1, 0, 3, 2, 5, 4);
        Check.due("three pairs", x.back(), 3);
        Check.wear(x, 1, 2, 0, 4, 5, 3);
        Check.due("two rings", x.back(), 4);
        Check.wear(x, 1, 2, 3, -1, -1, -1);
        Check.due("a chain to a bare one", x.back(), 3);
        own(x, 0, -1, 0, -1, -1, -1);
        Check.due("one owned by two", x.back(), -5);
        Check.wear(x, -1, 2);
        Check.due("owned by two, but on none", x.back(), 0);
        own(x, 1, 0, 0, -1, -1, -1);
        Check.due("and another one", x.back(), 1);
        own(x, -1, -1, -1, -1, -1, -1);
        Check.due("no owners", x.back(), 0);
    }

    /** HEADS that like: 0 HAT 1, 1 HAT 2, 2 HAT 0 (each by 5 more), all from 10. */
    private static HatsDecide likers() {
        HatsDecide x = Check.heads(0, 0, 0);
        x.hat(0, 0, 0, 10, 0);
        x.hat(0, 0, 0, 10, 0);
        x.hat(0, 0, 0, 10, 1);
        Check.town(x, "suit 5 e=0&a=1;suit 5 e=1&a=2;suit 5 e=2&a=0");
        return x;
    }

    private static void gusted() {
        HatsDecide x = likers();
        Check.wear(x, 0, 1, 2);
        int[] gusted = {30, 30, 45, 30, 30, 45};
        for (int g = 0; g < 6; g++) {
            Check.due("gusted by " + g, x.gusted(g), gusted[g]);
        }
        Check.due("nothing changed", x.of(0, 6), 0);
        Check.due("g 6", x.gusted(6), BAD);
        Check.due("g -1", x.gusted(-1), BAD);
        HatsDecide none = new HatsDecide();
        Check.due("no heads", none.gusted(0), 0);
    }

    private static void lucky() {
        HatsDecide none = new HatsDecide();
        Check.due("no heads", none.lucky(), -5);
        HatsDecide x = likers();
        Check.due("nothing on", x.lucky(), 0);
        Check.wear(x, 0, 1, 2);
        Check.due("2 is", x.lucky(), 2);
        Check.wear(x, 0, 2, 1);
        // 0 and 1 on their right ones behind a gust: 0 to 2 by 2, 1 to 0 by 1, 2 to 1 by 0.
        Check.due("the least of several", x.lucky(), 0);
        x.put(2, -1);
        Check.due("the lesser of two", x.lucky(), 1);
    }

    private static void swap() {
        HatsDecide none = new HatsDecide();
        Check.due("no heads", none.swap(), -5);
        HatsDecide x = likers();
        Check.due("nothing on", x.swap(), -5);
        Check.wear(x, 2, 0, 1);
        Check.due("all as they like", x.swap(), -5);
        Check.wear(x, 0, 2, 1);
        Check.due("0 and 2", x.swap(), 2);
        Check.wear(x, 0, 1, 2);
        Check.due("the first of several", x.swap(), 1);
        Check.wear(x, -1, -1, 2);
        Check.due("with a bare one", x.swap(), 12);
        Check.due("nothing changed", x.of(2, 6), 2);
    }

    private static void quarrel() {
        HatsDecide x = Check.heads(3, 0);
        x.hat(0, 0, 0, 10, 0);
        x.hat(1, 0, 1, 12, 0);
        Check.due("less", x.quarrel(1, 0, 0), -2);
        Check.due("more", x.quarrel(0, 1, 0), 2);
        Check.due("on another", x.quarrel(0, 1, 1), 0);
        Check.due("one is both", x.quarrel(1, 1, 0), -10002);
        Check.due("no hat", x.quarrel(2, 2, 0), -10001);
        Check.due("no other hat", x.quarrel(0, 2, 0), -10001);
        Check.due("hat -1", x.quarrel(-1, 0, 0), -10001);
        Check.due("no head", x.quarrel(0, 0, 2), -10001);
        Check.due("head -1", x.quarrel(0, 1, -1), -10001);
    }

    private static void how() {
        HatsDecide x = Check.heads(3, 4, 5);
        x.hat(0, 0, 3, 0, 0);
        x.hat(0, 0, 4, 0, 0);
        Check.due("none pinched", x.how(0), 0);
        Check.due("all bare", x.how(1), 7);
        Check.wear(x, 0, 2);
        Check.due("one pinched", x.how(0), 1);
        Check.due("one bare", x.how(1), 2);
        Check.wear(x, 2, 0);
        Check.due("two pinched", x.how(0), 2);
        Check.due("what 2", x.how(2), NONE);
        Check.due("what -1", x.how(-1), NONE);
    }

    /** By what DAY it is: each of these would be otherwise a DAY later. */
    private static void asItIs() {
        HatsDecide x = Check.heads(0, 0);
        x.hat(0, 0, 0, 10, 0);
        x.hat(0, 0, 0, 10, 1);
        Check.town(x, "suit 5 a=0&e=1&d=0;suit 9 e=0&d=1;suit 1 d=0;work 0 16;work 1 12");
        Check.wear(x, 0, 1);
        Check.due("by", x.by(-1), 27);
        row("by", x, 1, 0);
        Check.due("can", x.can(), 1);
        Check.due("gusted", x.gusted(1), 27);
        Check.due("lucky", x.lucky(), 1);
        Check.due("swap", x.swap(), 1);
        Check.due("quarrel", x.quarrel(0, 1, 1), 5);
        x.day();
        Check.due("by, a day later", x.by(-1), 29);
        row("by, a day later", x, 0, 1);
        Check.due("can, a day later", x.can(), 3);
        Check.due("gusted, a day later", x.gusted(1), 29);
        Check.due("lucky, a day later", x.lucky(), 0);
        Check.due("swap, a day later", x.swap(), -5);
        Check.due("quarrel, a day later", x.quarrel(0, 1, 1), 0);
        Check.town(x, "suit 1 a=0&e=1");
        Check.due("swap for one more", x.swap(), 1);
    }
}
