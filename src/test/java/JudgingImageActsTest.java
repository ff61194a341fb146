/** Promises 36 to 42: judging, the image, acts, taken, counts. */
public final class JudgingImageActsTest {
    private static final int NONE = HatsDecide.NONE, BAD = HatsDecide.BAD;
    private static final int STATE = HatsDecide.STATE;
    private static final int NOTHING = -11, CAST = -12;

    public static void main(String[] args) {
        judge();
        image();
        undoOfEachPart();
        newBehindUndo();
        undoLeavesTheRest();
        act();
        actsWrap();
        trace();
        taken();
        count();
        Check.end();
    }

    private static void judge() {
        HatsDecide x = Check.heads(0, 0, 0);
        x.hat(0, 0, 0, 0, 0);
        x.hat(0, 0, 0, 0, 0);
        Check.wear(x, 2, 0);
        Check.due("nothing there", x.judge(0, 0), 100);
        Check.bytes(x, 0, 9, 1, -1, 0, 1, 255, 1, 1, -1);
        Check.due("as it is", x.judge(0, 1), -5);
        Check.due("255 is -1, but the row goes on otherwise", x.judge(0, 4), 2);
        Check.due("otherwise at once", x.judge(0, 0), 0);
        Check.due("otherwise then", x.judge(0, 6), 1);
        Check.due("ends ahead of it", x.judge(0, 7), 102);
        Check.due("at once otherwise", x.judge(0, 8), 0);
        Check.due("ends at once", x.judge(0, 9), 100);
        Check.due("far beyond", x.judge(0, 10), 100);
        Check.due("farthest", x.judge(0, Integer.MAX_VALUE), 100);
        Check.due("below 0", x.judge(0, -1), 100);
        Check.due("far below 0", x.judge(0, Integer.MIN_VALUE), 100);
        for (int sort = 1; sort <= 4; sort++) {
            x.tape(1, sort, 3);
            Check.due("sort " + sort, x.judge(1, 0), CAST);
        }
        x.tape(1, 0, 0);
        Check.due("an empty row", x.judge(1, 0), 100);
        Check.due("tape 6", x.judge(6, 0), NONE);
        Check.due("tape -1", x.judge(-1, 0), NONE);
        HatsDecide none = new HatsDecide();
        Check.due("no heads, nothing there", none.judge(0, 0), -5);
        Check.due("no heads, below 0", none.judge(0, -1), -5);
        none.tape(0, 0, 2);
        Check.due("no heads", none.judge(0, 1), -5);
        none.tape(0, 2, 2);
        Check.due("no heads, CAST", none.judge(0, 1), CAST);
        Check.due("no heads, NONE", none.judge(6, 1), NONE);
    }

    private static void image() {
        HatsDecide x = Check.heads(0, 0);
        Check.due("no image", x.undo(), STATE);
        Check.due("no hats", x.image(), 0);
        x.hat(0, 0, 0, 10, 0);
        x.hat(0, 0, 0, 10, 0);
        x.head(3);
        Check.due("undo", x.undo(), 0);
        Check.due("hats", x.count(0), 0);
        Check.due("heads", x.count(1), 2);
        Check.due("no hat then", x.of(0, 0), -10001);
        x.hat(3, 7, 2, 10, 4);
        Check.due("a hat", x.image(), 1);
        x.hat(0, 0, 0, 10, 0);
        Check.due("undo again", x.undo(), 1);
        Check.due("and again", x.undo(), 1);
        Check.due("hats then", x.count(0), 1);
        Check.due("the same hat", x.of(0, 0) * 100 + x.of(0, 1) * 10 + x.of(0, 4), 374);
    }

    private static void undoOfEachPart() {
        HatsDecide x = Check.heads(1, 2);
        x.hat(6, 4, 2, 33, 1);
        x.hat(2, 5, 3, 22, 2);
        x.row(0, 2, 7);
        x.own(0, 1);
        x.put(0, 1);
        x.see(0, 37);
        x.book(0, 1);
        Check.town(x, "moth 5");
        x.day();
        x.image();
        changeAll(x);
        Check.due("undo", x.undo(), 2);
        asBefore(x);
        // What comes behind undo() does not reach THE IMAGE.
        changeAll(x);
        x.undo();
        asBefore(x);
    }

    private static void changeAll(HatsDecide x) {
        x.row(0, 2, 1);
        x.own(0, -1);
        x.own(1, 0);
        x.put(0, 0);
        x.put(1, 1);
        x.skill(0, 1);
        x.see(-1, 0);
        x.see(0, 3);
        x.see(1, 4);
        x.book(-1, 0);
        x.book(1, 0);
        x.book(1, 0);
        Check.town(x, "moth 6");
        x.day();
        x.day();
        x.head(9);
        x.hat(5, 5, 5, 5, 0);
    }

    private static void asBefore(HatsDecide x) {
        Check.due("ROW", x.row(0, 2, 7), 7);
        Check.due("own", x.at(0, 2), 1);
        Check.due("other own", x.at(1, 2), -5);
        Check.due("size of a head", x.at(1, 0), 2);
        Check.due("on whom", x.of(0, 6), 1);
        Check.due("on none", x.of(1, 6), -5);
        Check.due("SKILL", x.of(0, 3), 33);
        Check.due("USED", x.of(0, 5), 1);
        Check.due("USED of the other", x.of(1, 5), 0);
        Check.due("SEEN", x.count(3), 1);
        Check.due("WORE", x.wore(0), 3);
        Check.due("WORE of the other", x.wore(1), 3);
        Check.due("BOOK", x.count(4), 1);
        Check.due("LOOKED", x.looked(), -5);
        Check.due("MOTH", x.told(1), 5);
        Check.due("DAY", x.told(0), 1);
        Check.due("DONE", x.told(11), 37);
        Check.due("DONE of another", x.told(12), 0);
        Check.due("heads", x.count(1), 2);
        Check.due("hats", x.count(0), 2);
    }

    /** A HAT that comes where undo() took one away has nothing of that one. */
    private static void newBehindUndo() {
        HatsDecide x = Check.heads(0);
        x.image();
        x.head(5);
        x.hat(6, 0, 0, 10, 0);
        for (int part = 0; part < 4; part++) {
            x.row(0, part, 6);
        }
        x.put(0, 1);
        x.own(1, 0);
        x.day();
        x.undo();
        Check.due("a new hat", x.hat(6, 1, 0, 10, 0), 0);
        Check.due("a new head", x.head(4), 1);
        Check.due("USED", x.of(0, 5), 0);
        Check.due("on none", x.of(0, 6), -5);
        Check.due("OWN", x.at(1, 2), -5);
        for (int part = 0; part < 4; part++) {
            Check.due("ROW", x.row(0, part, 0), 0);
        }
    }

    private static void undoLeavesTheRest() {
        HatsDecide x = Check.heads(0);
        x.hat(0, 0, 0, 5, 0);
        x.image();
        Check.due("a town", Check.town(x, "moth 6;work 0 3"), 0);
        x.feed('m');
        Check.bytes(x, 3, 4, 5);
        x.act(0, 1, 3);
        x.undo();
        Check.due("no town holds", x.told(1), 0);
        Check.due("no work of it", x.told(20), 10);
        Check.due("but there is one", x.count(2), 1);
        Check.due("the text stays", x.count(5), 1);
        Check.due("the tape stays", x.read(3, 1), 5);
        Check.due("the trace stays", x.trace(0), 11);
        Check.due("the next town", Check.town(x, "oth 8"), 1);
        Check.due("holds", x.told(1), 8);
        x.image();
        Check.town(x, "moth 9");
        x.undo();
        Check.due("an older one holds", x.told(1), 8);
        Check.due("towns", x.count(2), 3);
    }

    private static void bodies(String what, HatsDecide x, int... bodies) {
        Check.due(what + ": bodies", x.count(6), bodies.length);
        for (int i = 0; i < bodies.length; i++) {
            Check.due(what + ": body " + i, x.trace(i), bodies[i]);
        }
        Check.due(what + ": no more", x.trace(bodies.length), NONE);
    }

    /** Each ACT of each KIND; HAT i is of KIND i, with v i + 2. */
    private static void act() {
        HatsDecide x = new HatsDecide();
        for (int kind = 0; kind < 6; kind++) {
            x.hat(kind, kind + 2, 0, 0, 0);
        }
        Check.due("HAT sits", x.act(0, 0, 10), 10);
        bodies("HAT sits", x, 10);
        Check.due("HAT does", x.act(0, 1, 10), 8);
        bodies("HAT does", x, 11, 10);
        Check.due("HAT tells", x.act(0, 2, 10), 16);
        bodies("HAT tells", x, 12, 11, 10);
        Check.due("TIGHT sits", x.act(1, 0, 10), 11);
        bodies("TIGHT sits", x, 10);
        Check.due("TIGHT does", x.act(1, 1, 10), 8 ^ 6);
        bodies("TIGHT does", x, 20, 11, 10);
        Check.due("TIGHT tells", x.act(1, 2, 10), 2 * (8 ^ 6));
        bodies("TIGHT tells", x, 12, 20, 11, 10);
        Check.due("WORN sits", x.act(2, 0, 10), 32);
        bodies("WORN sits", x, 30, 10);
        Check.due("WORN does", x.act(2, 1, 10), 28);
        bodies("WORN does", x, 11, 30, 10);
        Check.due("WORN tells", x.act(2, 2, 10), 56);
        bodies("WORN tells", x, 12, 11, 30, 10);
        Check.due("CROWN sits", x.act(3, 0, 10), 13);
        bodies("CROWN sits", x, 10);
        Check.due("CROWN does", x.act(3, 1, 10), 8);
        bodies("CROWN does", x, 11, 10);
        Check.due("CROWN tells", x.act(3, 2, 10), 16 - 1);
        bodies("CROWN tells", x, 40, 12, 11, 10, 11, 10);
        Check.due("STIFF sits", x.act(4, 0, 10), -14);
        bodies("STIFF sits", x, 50, 10);
        Check.due("STIFF does", x.act(4, 1, 10), (-15 - 6) ^ 6);
        bodies("STIFF does", x, 51, 20, 11, 50, 10);
        Check.due("STIFF tells", x.act(4, 2, 10), 2 * ((-15 - 6) ^ 6));
        bodies("STIFF tells", x, 12, 51, 20, 11, 50, 10);
        Check.due("FRAYED sits", x.act(5, 0, 10), 35);
        bodies("FRAYED sits", x, 30, 10);
        Check.due("FRAYED does", x.act(5, 1, 10), 28);
        bodies("FRAYED does", x, 11, 30, 10);
        Check.due("FRAYED tells", x.act(5, 2, 10), 2 * (20 - 7));
        bodies("FRAYED tells", x, 60, 12, 11, 30, 10);
        told();
    }

    private static void told() {
        HatsDecide x = new HatsDecide();
        x.hat(0, 0, 0, 0, 0);
        x.hat(6, 5, 0, 0, 0);
        Check.due("TOLD sits", x.act(1, 0, 10), 11 ^ 5);
        bodies("TOLD sits", x, 71, 10);
        Check.due("TOLD does", x.act(1, 1, 10), (11 ^ 5) - 5 + 3);
        bodies("TOLD does", x, 70, 11, 71, 10, 10);
        Check.due("TOLD tells", x.act(1, 2, 10), 2 * ((11 ^ 5) - 5 + 3) + (2 ^ 5) - 5 + 3);
        bodies("TOLD tells", x, 40, 12, 70, 11, 71, 10, 10, 70, 11, 71, 10, 10);
        Check.due("act 3", x.act(1, 3, 1), 0);
        bodies("act 3", x);
        x.act(1, 0, 1);
        Check.due("act -1", x.act(1, -1, 1), 0);
        bodies("act -1", x);
        x.act(1, 0, 1);
        Check.due("hat 2", x.act(2, 0, 1), 0);
        bodies("hat 2", x);
        x.act(1, 0, 1);
        Check.due("hat -1", x.act(-1, 0, 1), 0);
        bodies("hat -1", x);
    }

    private static void actsWrap() {
        HatsDecide x = new HatsDecide();
        x.hat(4, 9, 0, 0, 0);
        x.hat(2, 9, 0, 0, 0);
        int greatest = Integer.MAX_VALUE;
        Check.due("sits", x.act(1, 0, greatest), greatest * 3 + 1);
        Check.due("tells", x.act(1, 2, greatest), (greatest * 3 + 1 - 9) * 2);
        Check.due("does", x.act(0, 1, greatest), (-(greatest + 1) - 9) ^ 6);
    }

    private static void trace() {
        HatsDecide x = new HatsDecide();
        Check.due("none yet", x.trace(0), NONE);
        x.hat(1, 0, 0, 0, 0);
        x.act(0, 1, 0);
        Check.due("first", x.trace(0), 20);
        Check.due("last", x.trace(2), 10);
        Check.due("behind it", x.trace(3), NONE);
        Check.due("ahead of it", x.trace(-1), NONE);
        Check.due("far behind", x.trace(20), NONE);
        x.act(0, 0, 0);
        Check.due("the latest only", x.trace(0), 10);
        Check.due("no more of it", x.trace(1), NONE);
    }

    private static void taken() {
        HatsDecide x = new HatsDecide();
        int[] above = {-1, 0, 0, 0, 1, 2, 3};
        for (int first = 0; first <= 1; first++) {
            x = new HatsDecide();
            for (int i = 0; i < 6; i++) {
                x.hat(i + first, 0, 0, 0, 0);
            }
            for (int i = 0; i < 6; i++) {
                int kind = i + first;
                for (int k = 0; k < 7; k++) {
                    boolean is = k == 0 || k == kind || k == above[kind];
                    Check.due(kind + " taken for " + k, x.taken(i, k), is ? kind : CAST);
                }
            }
        }
        Check.due("k 7", x.taken(9, 7), BAD);
        Check.due("k -1", x.taken(0, -1), BAD);
        Check.due("hat 6", x.taken(6, 0), NOTHING);
        Check.due("hat -1", x.taken(-1, 0), NOTHING);
    }

    private static void count() {
        HatsDecide x = Check.heads(0, 0, 0);
        x.hat(0, 0, 0, 10, 0);
        x.hat(3, 0, 0, 10, 0);
        Check.town(x, "moth 1");
        x.see(0, 1);
        x.see(0, 1);
        x.see(1, 1);
        for (int i = 0; i < 5; i++) {
            x.book(0, 0);
        }
        x.feed('m');
        x.feed('o');
        x.feed('t');
        x.feed('h');
        x.act(1, 2, 0);
        int[] count = {2, 3, 1, 3, 5, 4, 6};
        for (int what = 0; what < 7; what++) {
            Check.due("count " + what, x.count(what), count[what]);
        }
        Check.due("count 7", x.count(7), BAD);
        Check.due("count -1", x.count(-1), BAD);
    }
}
