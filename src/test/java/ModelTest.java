/**
 * Long runs of calls, each answered by the program and by the Model alike. The calls come from a
 * row of numbers that is the same every time.
 */
public final class ModelTest {
    /**
     * A round of calls is begun only while the longest one, a whole TEXT, and what some runs ask
     * at their end fit below 512 calls.
     */
    private static final int RUNS = 1600, CALLS = 512, LONGEST = 110, END = 100;

    /** One of so many numbers is as far off as can be above 0, and one below 0. */
    private static final int SELDOM = 300, OFTEN = 12;

    private static long seed;
    private static int oneIn;
    private static int calls;
    private static HatsDecide x;
    private static Model m;

    public static void main(String[] args) {
        for (int run = 0; run < RUNS; run++) {
            seed = 7919L * run + 17;
            oneIn = run % 10 == 9 ? OFTEN : SELDOM;
            x = new HatsDecide();
            m = new Model();
            calls = 0;
            if (run % 8 != 0) {
                begin(run);
            }
            boolean asksAtTheEnd = run < RUNS / 2;
            while (calls < CALLS - LONGEST - (asksAtTheEnd ? END : 0)) {
                oneCall();
            }
            if (asksAtTheEnd) {
                allAtTheEnd();
            }
            Check.due("calls of a run within 512", Math.max(CALLS, calls), CALLS);
        }
        Check.end();
    }

    /** What a call changed that it should not have, and nothing asked for since. */
    private static void allAtTheEnd() {
        for (int i = 0; i < m.count(0); i++) {
            for (int what = 0; what <= 6; what++) {
                same("of " + what, x.of(i, what), m.of(i, what));
            }
            for (int part = 0; part < 4; part++) {
                same("row " + part, x.row(i, part, part), m.row(i, part, part));
            }
        }
        for (int i = 0; i < m.count(1); i++) {
            same("at 1", x.at(i, 1), m.at(i, 1));
            same("at 2", x.at(i, 2), m.at(i, 2));
        }
        for (int what = 0; what < 5; what++) {
            same("done", x.told(10 + what), m.told(10 + what));
            same("work", x.told(20 + what), m.told(20 + what));
        }
        for (int what = 0; what <= 6; what++) {
            same("count", x.count(what), m.count(what));
        }
        same("day", x.told(0), m.told(0));
        same("looked", x.looked(), m.looked());
        same("who", x.who(), m.who());
    }

    private static int below(int n) {
        seed = seed * 6364136223846793005L + 1442695040888963407L;
        return (int) ((seed >>> 33) % n);
    }

    private static int from(int least, int greatest) {
        return least + below(greatest - least + 1);
    }

    /** Now and then a number far off. */
    private static int some(int least, int greatest) {
        int far = below(oneIn);
        return far == 0 ? Integer.MAX_VALUE : far == 1 ? Integer.MIN_VALUE : from(least, greatest);
    }

    private static void same(String call, long got, long want) {
        calls++;
        Check.due("run from " + seed + ", " + call, got, want);
    }

    /** Some HEADS, some HATS (few KINDS in some runs), a TOWN. */
    private static void begin(int run) {
        int heads = from(1, 6);
        int hats = from(1, 6);
        int sizes = run % 3 == 0 ? 2 : 9;
        int trades = run % 5 == 0 ? 1 : 4;
        for (int i = 0; i < heads; i++) {
            int size = from(0, sizes);
            same("head", x.head(size), m.head(size));
        }
        for (int i = 0; i < hats; i++) {
            int kind = from(0, 6);
            int v = from(0, 9);
            int size = from(0, sizes);
            int skill = from(0, run % 2 == 0 ? 50 : 12);
            int trade = from(0, trades);
            same("hat", x.hat(kind, v, size, skill, trade), m.hat(kind, v, size, skill, trade));
            int head = from(-1, heads - 1);
            same("put", x.put(i, head), m.put(i, head));
            for (int part = 0; part < 4 && kind == 6; part++) {
                int n = from(0, 9);
                same("row", x.row(i, part, n), m.row(i, part, n));
            }
        }
        feedText();
        same("town", x.town(), m.town());
    }

    private static String expression(int depth) {
        int sort = below(depth > 3 ? 6 : 12);
        if (sort < 6) {
            return "" + "aektud".charAt(below(6)) + "<=>".charAt(below(3)) + below(below(9) == 0 ? 30 : 8);
        }
        if (sort == 6) {
            return "!" + expression(depth + 1).replaceAll("^([^(!]....?)[&|].*", "$1");
        }
        if (sort < 9) {
            return "(" + expression(depth + 1) + ")";
        }
        return expression(depth) + (sort == 9 ? "|" : "&") + expression(depth);
    }

    private static String clause() {
        switch (below(6)) {
            case 0: return "moth " + below(20);
            case 1: return "work " + below(6) + " " + below(below(2) == 0 ? 100 : 20);
            case 2: return "gall " + below(30) + " " + expression(0);
            default: return "suit " + below(40) + " " + expression(0);
        }
    }

    /** A TEXT that is sound mostly, and at times has a byte that is not. */
    private static void feedText() {
        StringBuilder text = new StringBuilder(clause());
        for (int i = below(below(4) == 0 ? 11 : 5); i > 0; i--) {
            text.append(';').append(clause());
        }
        if (below(3) == 0 && text.length() > 0) {
            int place = below(text.length());
            switch (below(3)) {
                case 0: text.deleteCharAt(place); break;
                case 1: text.setCharAt(place, "suitgalmohwrk ;()!&|<=>0123aektud".charAt(below(33))); break;
                default: text.insert(place, " ;()!&|<=>0123aektud".charAt(below(20))); break;
            }
        }
        if (text.length() > 100) {
            // What is cut behind 100 bytes would be a fault mostly.
            int end = text.lastIndexOf(";", 100);
            text.setLength(end > 0 && below(9) != 0 ? end : 100);
        }
        for (int i = 0; i < text.length(); i++) {
            same("feed", x.feed(text.charAt(i)), m.feed(text.charAt(i)));
        }
    }

    private static void oneCall() {
        int which = below(60);
        if (which < 15) {
            changeSomething(which);
        } else if (which < 24) {
            seeOrBook(which);
        } else if (which < 40) {
            askSomething(which);
        } else if (which < 50) {
            askMore(which);
        } else {
            tapesAndActs(which);
        }
    }

    private static void changeSomething(int which) {
        int a = some(-2, 6);
        int b = some(-2, 6);
        int c = some(-1, 10);
        switch (which) {
            case 0: same("head", x.head(c), m.head(c)); break;
            case 1:
                int v = some(-1, 10);
                int skill = some(-1, 51);
                int trade = some(-1, 5);
                same("hat", x.hat(a, v, c, skill, trade), m.hat(a, v, c, skill, trade));
                break;
            case 2: same("row", x.row(a, b, c), m.row(a, b, c)); break;
            case 3: case 4: case 5: same("put", x.put(a, b), m.put(a, b)); break;
            case 6: case 7: same("own", x.own(a, b), m.own(a, b)); break;
            case 8:
                int n = some(-1, 51);
                same("skill", x.skill(a, n), m.skill(a, n));
                break;
            case 9:
                if (below(3) == 0) {
                    feedText();
                    same("town", x.town(), m.town());
                }
                break;
            case 10: case 11:
                for (int i = below(9); i >= 0; i--) {
                    same("day", x.day(), m.day());
                }
                break;
            case 12: same("gust", x.gust(a), m.gust(a)); break;
            case 13: same("change", x.change(a, b), m.change(a, b)); break;
            default:
                int sign = some(-1, 128);
                if (below(50) == 0) {
                    same("feed", x.feed(sign), m.feed(sign));
                }
                break;
        }
    }

    private static void seeOrBook(int which) {
        int a = some(-1, 6);
        int b = some(-1, 6);
        switch (which) {
            case 15: case 16: case 17: case 18:
                // Mostly what the HAT does somewhere, else nothing could be as seen.
                int deed = below(5) == 0 ? some(-1, 1000) : m.of(a, 10 + Math.max(0, b));
                if (a >= 0 || below(3) == 0) {
                    same("see", x.see(a, deed), m.see(a, deed));
                }
                break;
            case 19: case 20: case 21:
                int head = below(3) == 0 ? b : m.of(a, 6);
                if (a >= 0 || below(3) == 0) {
                    same("book", x.book(a, head), m.book(a, head));
                }
                break;
            case 22: same("image", x.image(), m.image()); break;
            default:
                if (below(2) == 0) {
                    same("undo", x.undo(), m.undo());
                }
                break;
        }
    }

    private static void askSomething(int which) {
        int a = some(-1, 6);
        int b = some(-1, 6);
        switch (which) {
            case 24:
                int what = some(-1, 17);
                same("of", x.of(a, what), m.of(a, what));
                break;
            case 25:
                int part = some(-1, 3);
                same("at", x.at(a, part), m.at(a, part));
                break;
            case 26:
                int of = some(-1, 26);
                same("told", x.told(of), m.told(of));
                break;
            case 27: same("today", x.today(a), m.today(a)); break;
            case 28: same("enough", x.enough(), m.enough()); break;
            case 29: same("best", x.best(a), m.best(a)); break;
            case 30:
                int n = some(-1, 31);
                same("on", x.on(a, n), m.on(a, n));
                break;
            case 31: same("lasts", x.lasts(a), m.lasts(a)); break;
            case 32: case 33:
                for (int k = -2; k <= 6; k++) {
                    same("by " + k, x.by(k), m.by(k));
                }
                break;
            case 34: same("can", x.can(), m.can()); break;
            case 35: same("back", x.back(), m.back()); break;
            case 36: same("gusted", x.gusted(a), m.gusted(a)); break;
            case 37: same("lucky", x.lucky(), m.lucky()); break;
            case 38: same("swap", x.swap(), m.swap()); break;
            default:
                int head = some(-1, 6);
                same("quarrel", x.quarrel(a, b, head), m.quarrel(a, b, head));
                break;
        }
    }

    private static void askMore(int which) {
        int a = some(-1, 6);
        int b = some(-1, 2);
        switch (which) {
            case 40: same("how", x.how(b), m.how(b)); break;
            case 41: case 42: same("wore", x.wore(a), m.wore(a)); break;
            case 43: case 44: same("who", x.who(), m.who()); break;
            case 45: same("odds", x.odds(a, b), m.odds(a, b)); break;
            case 46: same("mean", x.mean(a, b), m.mean(a, b)); break;
            case 47: same("looked", x.looked(), m.looked()); break;
            case 48:
                int what = some(-1, 7);
                same("count", x.count(what), m.count(what));
                break;
            default: same("taken", x.taken(a, b), m.taken(a, b)); break;
        }
    }

    private static void tapesAndActs(int which) {
        int tape = some(-1, 6);
        int other = below(2) == 0 ? tape : some(-1, 6);
        int i = some(-1, 9);
        int j = some(-1, 9);
        switch (which) {
            case 50:
                int sort = below(2) == 0 ? 0 : some(-2, 5);
                int n = below(3) == 0 ? some(-1, 61) : from(0, 9);
                same("tape", x.tape(tape, sort, n), m.tape(tape, sort, n));
                break;
            case 51: case 52:
                long v = below(2) == 0 ? from(-1, 5) : (long) below(1 << 30) << below(40);
                same("item", x.item(tape, i, v), m.item(tape, i, v));
                break;
            case 53: same("read", x.read(tape, i), m.read(tape, i)); break;
            case 54:
                int items = some(-1, 5);
                same("shift", x.shift(tape, i, other, j, items), m.shift(tape, i, other, j, items));
                break;
            case 55: case 56: judgeSome(tape, i); break;
            case 57: case 58:
                int number = below(9) == 0 ? below(1 << 30) * 4 : from(-9, 9);
                int act = some(-1, 3);
                same("act", x.act(tape, act, number), m.act(tape, act, number));
                same("bodies", x.count(6), m.count(6));
                for (int body = -1; body < 14; body++) {
                    same("trace " + body, x.trace(body), m.trace(body));
                }
                break;
            default:
                int place = some(-1, 20);
                same("trace", x.trace(place), m.trace(place));
                break;
        }
    }

    /** Mostly a row that is as HEADS are, up to somewhere. */
    private static void judgeSome(int tape, int place) {
        if (below(3) > 0) {
            int items = below(8);
            for (int h = 0; h < items; h++) {
                int hat = m.at(h, 1);
                int item = hat < 0 ? -1 : hat;
                same("item", x.item(tape, place + h, item), m.item(tape, place + h, item));
            }
        }
        same("judge", x.judge(tape, place), m.judge(tape, place));
    }
}
