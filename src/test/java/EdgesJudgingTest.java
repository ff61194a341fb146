/** Judging, THE IMAGE, ACTS, KINDS and counts, promises 36 to 42: each sentence that names an edge. */
public final class EdgesJudgingTest {
    private static final int NONE = HatsDecide.NONE, BAD = HatsDecide.BAD;
    private static final int STATE = HatsDecide.STATE, FULL = HatsDecide.FULL;
    private static final int NOTHING = -11, CAST = -12;
    private static final int LEAST = Integer.MIN_VALUE, GREATEST = Integer.MAX_VALUE;
    private static final int SITS = 0, DOES = 1, TELLS = 2;

    public static void main(String[] args) {
        judgeOfNoTape();
        judgeOfAnotherSort();
        judgeOfATapeThatHoldsNothing();
        judgeFromBelow0();
        judgeWithoutHeads();
        judgeOfARowThatEndsAhead();
        judgeTellsTheFirst();
        judgeOfBareHeads();
        undoWithoutAnImage();
        imageOfNothing();
        imageIsTheLatest();
        imageStays();
        undoMakesRoomAgain();
        undoOfTownsAndWhatIsNotInTheImage();
        undoOfDoneAtItsEnd();
        undoOfEachThatIsSeen();
        undoOfEachRowOfTheBook();
        actOfNoNumber();
        noTraceBehindNoAct();
        sitsWraps();
        doesWraps();
        tellsWraps();
        theNextKindAboveThatHasABody();
        traceIsOfTheLatest();
        traceHasItsEnds();
        theLongestTraceIsKept();
        takenForKOrUnderThat();
        takenOfNoNumber();
        countOfNoNumber();
        countOfAllAtTheirMost();
        Check.end();
    }

    private static HatsDecide made(int heads, int hats) {
        HatsDecide x = new HatsDecide();
        for (int i = 0; i < heads; i++) {
            x.head(0);
        }
        for (int i = 0; i < hats; i++) {
            x.hat(0, 0, 0, 10, i % 5);
        }
        return x;
    }

    private static void judgeOfNoTape() {
        for (HatsDecide x : new HatsDecide[] {made(0, 0), made(2, 2)}) {
            Check.beyond("judge", 0, 5, NONE, n -> x.judge(n, 0));
            Check.beyond("judge from below 0", 0, 5, NONE, n -> x.judge(n, -1));
        }
    }

    private static void judgeOfAnotherSort() {
        for (int heads = 0; heads <= 2; heads++) {
            HatsDecide x = made(heads, 0);
            for (int sort = 1; sort <= 4; sort++) {
                for (int n = 0; n <= 60; n += 60) {
                    x.tape(5, sort, n);
                    Check.due("sort " + sort, x.judge(5, 0), CAST);
                    Check.due("from below 0", x.judge(5, -1), CAST);
                    Check.due("far beyond", x.judge(5, GREATEST), CAST);
                }
            }
        }
    }

    private static void judgeOfATapeThatHoldsNothing() {
        HatsDecide x = made(2, 0);
        for (int tape = 0; tape < 6; tape++) {
            Check.due("at first", x.judge(tape, 0), 100);
        }
        Check.bytes(x, 0, -1, -1);
        Check.due("as it is", x.judge(0, 0), -5);
        x.tape(0, -1, 0);
        Check.due("nothing then", x.judge(0, 0), 100);
        Check.due("from elsewhere", x.judge(0, 59), 100);
    }

    private static void judgeFromBelow0() {
        HatsDecide x = made(2, 0);
        Check.bytes(x, 0, -1, -1, -1, -1);
        Check.due("-1", x.judge(0, -1), 100);
        Check.due("-2", x.judge(0, -2), 100);
        Check.due("farthest", x.judge(0, LEAST), 100);
        Check.due("0", x.judge(0, 0), -5);
    }

    private static void judgeWithoutHeads() {
        HatsDecide x = made(0, 2);
        Check.bytes(x, 0, 3, 4);
        Check.due("none to look at", x.judge(0, 0), -5);
        Check.due("from the last", x.judge(0, 1), -5);
        Check.due("from the end", x.judge(0, 2), -5);
        x.tape(0, 0, 0);
        Check.due("an empty row", x.judge(0, 0), -5);
        x.head(0);
        Check.due("an empty row for one HEAD", x.judge(0, 0), 100);
    }

    private static void judgeOfARowThatEndsAhead() {
        HatsDecide x = made(6, 6);
        Check.wear(x, 5, 4, 3, 2, 1, 0);
        for (int items = 0; items <= 6; items++) {
            x.tape(1, 0, 10 + items);
            for (int i = 0; i < items; i++) {
                x.item(1, 10 + i, 5 - i);
            }
            Check.due(items + " are there", x.judge(1, 10), items == 6 ? -5 : 100 + items);
            Check.due("from the end", x.judge(1, 10 + items), 100);
            Check.due("from beyond the end", x.judge(1, 11 + items), 100);
            Check.due("from farthest", x.judge(1, GREATEST), 100);
        }
        x.tape(2, 0, 60);
        Check.due("the last place there can be, otherwise", x.judge(2, 59), 0);
        x.item(2, 59, 5);
        Check.due("the last place there can be", x.judge(2, 59), 101);
    }

    private static void judgeTellsTheFirst() {
        HatsDecide x = made(3, 3);
        Check.wear(x, 0, 1, 2);
        Check.bytes(x, 0, 0, 1, 2, 9, 1, 9, 0, 9, 9, 0, 1, 9);
        int[] from = {0, 3, 6, 9};
        int[] due = {-5, 0, 1, 2};
        for (int i = 0; i < 4; i++) {
            Check.due("from " + from[i], x.judge(0, from[i]), due[i]);
        }
        Check.bytes(x, 1, 0, 9);
        Check.due("otherwise ahead of the end", x.judge(1, 0), 1);
    }

    private static void judgeOfBareHeads() {
        HatsDecide x = made(2, 1);
        Check.bytes(x, 0, -1, 255, 0, -1, -5, -1, 127, -128);
        Check.due("-1, and 255 as a byte has it", x.judge(0, 0), -5);
        Check.due("HAT 0 for nothing", x.judge(0, 2), 0);
        Check.due("-5 is not nothing", x.judge(0, 4), 0);
        Check.due("127", x.judge(0, 5), 1);
        x.put(0, 0);
        Check.due("nothing for HAT 0", x.judge(0, 0), 0);
        Check.due("both right", x.judge(0, 2), -5);
    }

    private static void undoWithoutAnImage() {
        HatsDecide x = made(2, 2);
        Check.due("undo", x.undo(), STATE);
        Check.due("HATS stay", x.count(0), 2);
        Check.due("undo again", x.undo(), STATE);
    }

    private static void imageOfNothing() {
        HatsDecide x = new HatsDecide();
        Check.due("image", x.image(), 0);
        x.head(0);
        x.hat(0, 0, 0, 10, 0);
        x.put(0, 0);
        x.day();
        x.see(0, 1);
        x.book(0, 0);
        Check.due("undo", x.undo(), 0);
        int[] due = {0, 0, 0, 0, 0, 0, 0};
        for (int what = 0; what < due.length; what++) {
            Check.due("count " + what, x.count(what), due[what]);
        }
        Check.due("DAY", x.told(0), 0);
        Check.due("DONE", x.told(10), 0);
    }

    private static void imageIsTheLatest() {
        HatsDecide x = made(1, 1);
        Check.due("one HAT", x.image(), 1);
        x.hat(0, 0, 0, 20, 0);
        Check.due("two HATS", x.image(), 2);
        x.hat(0, 0, 0, 30, 0);
        Check.due("undo to two", x.undo(), 2);
        Check.due("HAT 1 is there", x.of(1, 3), 20);
        Check.due("HAT 2 is not", x.of(2, 3), -10001);
    }

    private static void imageStays() {
        HatsDecide x = made(1, 1);
        x.image();
        for (int i = 0; i < 3; i++) {
            x.skill(0, 40 + i);
            x.put(0, i == 1 ? -1 : 0);
            x.day();
            Check.due("undo " + i, x.undo(), 1);
            Check.due("SKILL " + i, x.of(0, 3), 10);
            Check.due("on none " + i, x.of(0, 6), -5);
            Check.due("DAY " + i, x.told(0), 0);
        }
    }

    private static void undoMakesRoomAgain() {
        HatsDecide x = new HatsDecide();
        x.image();
        for (int round = 0; round < 2; round++) {
            for (int i = 0; i < 6; i++) {
                Check.due("HEAD", x.head(i), i);
                Check.due("HAT", x.hat(i, i, i, i, 0), i);
                Check.due("SEEN", x.see(0, i), i + 1);
            }
            for (int i = 1; i <= 8; i++) {
                Check.due("row", x.book(0, 0), i);
            }
            Check.due("seventh HEAD", x.head(0), FULL);
            Check.due("seventh HAT", x.hat(0, 0, 0, 0, 0), FULL);
            Check.due("seventh SEEN", x.see(0, 0), FULL);
            Check.due("ninth row", x.book(0, 0), FULL);
            Check.due("undo", x.undo(), 0);
        }
    }

    private static void undoOfTownsAndWhatIsNotInTheImage() {
        HatsDecide x = made(1, 1);
        x.image();
        for (int i = 0; i < 6; i++) {
            Check.town(x, "moth 1" + i);
        }
        x.feed('x');
        Check.bytes(x, 4, 7);
        x.act(0, TELLS, 1);
        x.undo();
        Check.due("no TOWN holds", x.told(1), 0);
        Check.due("TOWNS stay", x.count(2), 6);
        Check.due("so there is no room", x.town(), FULL);
        Check.due("THE TEXT stays", x.count(5), 1);
        Check.due("TAPES stay", x.read(4, 0), 7);
        Check.due("THE TRACE stays", x.trace(2), 10);
    }

    private static void undoOfEachThatIsSeen() {
        HatsDecide x = made(2, 6);
        for (int i = 0; i < 6; i++) {
            x.see(i, i % 2 == 0 ? 10 : 11);
        }
        x.image();
        for (int round = 0; round < 2; round++) {
            x.see(-1, 0);
            for (int i = 0; i < 6; i++) {
                x.see(round == 0 ? 5 - i : i, 10 + (i + round) % 2);
            }
            x.undo();
            Check.due("SEEN", x.count(3), 6);
            for (int hat = 0; hat < 6; hat++) {
                Check.due("WORE of " + hat + ", " + round, x.wore(hat), hat % 2 == 0 ? 3 : 0);
            }
        }
    }

    private static void undoOfEachRowOfTheBook() {
        HatsDecide x = made(6, 6);
        int[] hats = {3, 1, 4, 1, 5, 2, 0, 3};
        for (int hat = 0; hat < 6; hat++) {
            x.put(hat, 5 - hat);
        }
        for (int hat : hats) {
            x.book(hat, 5 - hat);
        }
        x.image();
        int[] first = {6, 1, 5, 0, 2, 4};
        for (int hat = 0; hat < 6; hat++) {
            x.book(-1, 0);
            for (int i = 0; i < 8; i++) {
                x.book(hat, i % 6);
            }
            x.undo();
            Check.due("rows", x.count(4), 8);
            Check.due("LOOKED at", x.looked(), -5);
            x.put(hat, -1);
            Check.due("LOOKED at without HAT " + hat, x.looked(), first[hat]);
            x.undo();
        }
    }

    private static void undoOfDoneAtItsEnd() {
        HatsDecide x = made(1, 0);
        x.hat(3, 9, 0, 50, 0);
        x.put(0, 0);
        Check.town(x, "suit 99 a<9" + ";suit 99 a<9".repeat(7));
        x.image();
        for (int i = 0; i < 20; i++) {
            x.day();
        }
        Check.due("DONE", x.told(10), 20 * 851);
        x.undo();
        Check.due("DONE as it was", x.told(10), 0);
        Check.due("USED as it was", x.of(0, 5), 0);
        Check.due("FITS as they were", x.of(0, 10), 851);
    }

    private static void actOfNoNumber() {
        HatsDecide x = made(0, 2);
        Check.beyond("HAT", 0, 1, 0, n -> x.act(n, 0, 5));
        Check.beyond("act", 0, 2, 0, n -> x.act(1, n, 5));
        Check.beyond("without HATS", 0, 1, 0, n -> new HatsDecide().act(n, 0, 5));
        Check.due("HAT 0 of none", new HatsDecide().act(0, 0, 5), 0);
    }

    private static void noTraceBehindNoAct() {
        HatsDecide x = made(0, 2);
        int[][] wrong = {{2, 0}, {-1, 0}, {0, 3}, {0, -1}, {9, 9}, {GREATEST, 0}, {0, LEAST}};
        for (int[] call : wrong) {
            x.act(1, TELLS, 5);
            Check.due("bodies ahead of it", x.count(6), 3);
            x.act(call[0], call[1], 5);
            Check.due("bodies behind it", x.count(6), 0);
            Check.due("no TRACE then", x.trace(0), NONE);
        }
    }

    /** Six HATS, each of this KIND, with v as told. */
    private static HatsDecide six(int kind, int v) {
        HatsDecide x = new HatsDecide();
        for (int i = 0; i < 6; i++) {
            x.hat(kind, v, 0, 0, 0);
        }
        return x;
    }

    private static void sitsWraps() {
        Check.due("10: x + i", six(0, 0).act(1, SITS, GREATEST), LEAST);
        Check.due("10: x + 5", six(0, 0).act(5, SITS, GREATEST - 4), LEAST);
        Check.due("10: x + 0", six(0, 0).act(0, SITS, GREATEST), GREATEST);
        Check.due("30: x * 3", six(2, 0).act(0, SITS, GREATEST), 2147483645);
        Check.due("30: x * 3, from the least", six(2, 0).act(0, SITS, LEAST), LEAST);
        Check.due("30: just over", six(2, 0).act(0, SITS, 715827883), -2147483647);
        Check.due("50: - of the least", six(4, 0).act(0, SITS, LEAST), LEAST);
        Check.due("50: - of the greatest", six(4, 0).act(0, SITS, GREATEST), -GREATEST);
        Check.due("71: ^ v", six(6, 9).act(1, SITS, GREATEST), -2147483639);
    }

    private static void doesWraps() {
        Check.due("11: - v", six(0, 9).act(0, DOES, LEAST), 2147483639);
        Check.due("20: ^ 6 of the greatest", six(1, 0).act(0, DOES, GREATEST), 2147483641);
        Check.due("20: ^ 6 of the least", six(1, 0).act(0, DOES, LEAST), -2147483642);
        Check.due("51: x + 1", six(4, 0).act(0, DOES, GREATEST), -2147483642);
        Check.due("70: both together", six(6, 0).act(0, DOES, GREATEST), -2147483647);
    }

    private static void tellsWraps() {
        Check.due("12: * 2", six(0, 0).act(0, TELLS, GREATEST), -2);
        Check.due("12: * 2 of the least", six(0, 0).act(0, TELLS, LEAST), 0);
        Check.due("12: * 2, just over", six(0, 0).act(0, TELLS, 1 << 30), LEAST);
        Check.due("40: both together", six(3, 0).act(5, TELLS, 1073741818), -2147483644);
        Check.due("60: x - i", six(5, 0).act(1, TELLS, LEAST), -4);
    }

    private static void theNextKindAboveThatHasABody() {
        // Which body runs first, by KIND and act.
        int[][] first = {{10, 11, 12}, {10, 20, 12}, {30, 11, 12}, {10, 11, 40}, {50, 51, 12}, {30, 11, 60}, {71, 70, 40}};
        for (int kind = 0; kind <= 6; kind++) {
            for (int act = 0; act <= 2; act++) {
                HatsDecide x = six(kind, 1);
                x.act(3, act, 7);
                Check.due("KIND " + kind + ", act " + act, x.trace(0), first[kind][act]);
            }
        }
    }

    private static void traceIsOfTheLatest() {
        HatsDecide x = six(6, 1);
        x.act(0, TELLS, 1);
        x.act(0, SITS, 1);
        Check.due("bodies", x.count(6), 2);
        Check.due("the first", x.trace(0), 71);
        Check.due("the second", x.trace(1), 10);
        Check.due("none of an older one", x.trace(2), NONE);
    }

    private static void traceHasItsEnds() {
        HatsDecide none = new HatsDecide();
        Check.beyond("none yet", 0, -1, NONE, none::trace);
        HatsDecide x = six(0, 0);
        x.act(0, SITS, 1);
        Check.beyond("one", 0, 0, NONE, x::trace);
        x.act(0, DOES, 1);
        Check.beyond("two", 0, 1, NONE, x::trace);
        Check.due("beyond what is kept", x.trace(20), NONE);
    }

    /** No ACT has more bodies than TOLD tells: so what comes behind the first 20 is never told. */
    private static void theLongestTraceIsKept() {
        int[] due = {40, 12, 70, 11, 71, 10, 10, 70, 11, 71, 10, 10};
        HatsDecide x = six(6, 1);
        x.act(5, TELLS, 1);
        Check.due("bodies", x.count(6), 12);
        for (int i = 0; i < 12; i++) {
            Check.due("body " + i, x.trace(i), due[i]);
        }
        Check.beyond("trace", 0, 11, NONE, x::trace);
        for (int kind = 0; kind <= 6; kind++) {
            for (int act = 0; act <= 2; act++) {
                HatsDecide y = six(kind, 1);
                y.act(0, act, 1);
                Check.yes("not longer", y.count(6) <= 12);
            }
        }
    }

    private static void takenForKOrUnderThat() {
        // As bits: for which KINDS a HAT of each KIND can be taken.
        int[] due = {1, 3, 5, 9, 19, 37, 73};
        for (int kind = 0; kind <= 6; kind++) {
            HatsDecide x = six(kind, 0);
            for (int k = 0; k <= 6; k++) {
                Check.due("KIND " + kind + " for " + k, x.taken(5, k), (due[kind] >> k & 1) == 1 ? kind : CAST);
            }
        }
    }

    private static void takenOfNoNumber() {
        HatsDecide x = made(0, 2);
        Check.beyond("k", 0, 6, BAD, n -> x.taken(0, n));
        Check.beyond("HAT", 0, 1, NOTHING, n -> x.taken(n, 0));
        Check.beyond("HAT, for another KIND", 0, 1, NOTHING, n -> x.taken(n, 6));
        Check.beyond("both", 0, 6, BAD, n -> x.taken(n, n));
        Check.due("no HATS", new HatsDecide().taken(0, 0), NOTHING);
    }

    private static void countOfNoNumber() {
        for (HatsDecide x : new HatsDecide[] {made(0, 0), made(2, 2)}) {
            Check.beyond("count", 0, 6, BAD, x::count);
        }
    }

    private static void countOfAllAtTheirMost() {
        HatsDecide x = made(6, 6);
        for (int i = 0; i < 6; i++) {
            Check.town(x, "moth 1");
            x.see(0, 1);
        }
        for (int i = 0; i < 8; i++) {
            x.book(0, 0);
        }
        for (int i = 0; i < 100; i++) {
            x.feed('m');
        }
        int[] due = {6, 6, 6, 6, 8, 100, 0};
        for (int what = 0; what < due.length; what++) {
            Check.due("count " + what, x.count(what), due[what]);
        }
    }
}
