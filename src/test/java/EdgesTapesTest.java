/** TAPES, promises 43 to 46: each sentence that names an edge. */
public final class EdgesTapesTest {
    private static final int NONE = HatsDecide.NONE, BAD = HatsDecide.BAD;
    private static final int NOTHING = -11, CAST = -12, PLACE = -13, SIZE = -14;
    private static final long NO = HatsDecide.NO;
    private static final int LEAST = Integer.MIN_VALUE, GREATEST = Integer.MAX_VALUE;

    public static void main(String[] args) {
        tapesHoldNothingAtFirst();
        tapesAre0To5();
        tapeOf0To60();
        tapeOfASizeBelow0();
        tapeOfNoSort();
        tapeOfSortMinus1();
        tapeIsAll0Again();
        itemOfNothing();
        itemOfNoPlace();
        itemsOfAnEmptyRow();
        bytesAndShortsWrap();
        intsAndLongsWrap();
        booleansAre0Or1();
        readOfNothing();
        readOfTheLeastLong();
        shiftOfNoTape();
        shiftOfNothing();
        shiftOfUnlikeSorts();
        shiftBelow0();
        shiftBeyondTheEnds();
        shiftUpToTheEnds();
        shiftOfNoItems();
        shiftAsTheyAllWereBefore();
        shiftOfEachSort();
        Check.end();
    }

    private static void tapesHoldNothingAtFirst() {
        HatsDecide x = new HatsDecide();
        for (int tape = 0; tape < 6; tape++) {
            Check.due("read " + tape, x.read(tape, 0), NO);
            Check.due("item " + tape, x.item(tape, 0, 1), NOTHING);
            Check.due("shift " + tape, x.shift(tape, 0, tape, 0, 0), NOTHING);
        }
    }

    private static void tapesAre0To5() {
        HatsDecide x = new HatsDecide();
        Check.beyond("tape", 0, 5, NONE, n -> x.tape(n, 0, 1));
        Check.beyond("tape to hold nothing", 0, 5, NONE, n -> x.tape(n, -1, 1));
        Check.beyond("item", 0, 5, NONE, n -> x.item(n, 0, 1));
        Check.beyond("read", 0, 5, NO, n -> x.read(n, 0));
        for (int tape = 0; tape < 6; tape++) {
            Check.due("tape " + tape, x.tape(tape, 3, 1), 1);
            Check.due("item " + tape, x.item(tape, 0, 70 + tape), 1);
        }
        for (int tape = 0; tape < 6; tape++) {
            Check.due("each has its own row", x.read(tape, 0), 70 + tape);
        }
    }

    private static void tapeOf0To60() {
        HatsDecide x = new HatsDecide();
        for (int sort = 0; sort <= 4; sort++) {
            Check.due("0", x.tape(0, sort, 0), 1);
            Check.due("60", x.tape(1, sort, 60), 1);
            Check.due("the last of 60", x.item(1, 59, 1), 1);
            Check.due("behind it", x.item(1, 60, 1), PLACE);
            Check.due("61", x.tape(1, sort, 61), BAD);
            Check.due("the most", x.tape(1, sort, GREATEST), BAD);
            Check.due("it stays as it was", x.read(1, 59), 1);
        }
    }

    private static void tapeOfASizeBelow0() {
        HatsDecide x = new HatsDecide();
        for (int sort = 0; sort <= 4; sort++) {
            Check.due("-1", x.tape(0, sort, -1), SIZE);
            Check.due("the least", x.tape(0, sort, LEAST), SIZE);
            Check.due("it holds nothing still", x.item(0, 0, 1), NOTHING);
        }
        x.tape(0, 1, 2);
        Check.due("-1", x.tape(0, 2, -1), SIZE);
        Check.due("the row stays", x.read(0, 1), 0);
    }

    private static void tapeOfNoSort() {
        HatsDecide x = new HatsDecide();
        x.tape(0, 0, 1);
        x.item(0, 0, 7);
        Check.beyond("sort", -1, 4, BAD, n -> x.tape(0, n, 1));
        Check.beyond("sort, size below 0", -1, 4, BAD, n -> x.tape(0, n, -1));
        Check.due("the row stays", x.read(0, 0), 7);
    }

    private static void tapeOfSortMinus1() {
        HatsDecide x = new HatsDecide();
        Check.due("it held nothing", x.tape(0, -1, 5), 1);
        int[] sizes = {0, 60, 61, -1, LEAST, GREATEST};
        for (int n : sizes) {
            x.tape(0, 0, 3);
            Check.due("n " + n, x.tape(0, -1, n), 1);
            Check.due("it holds nothing", x.item(0, 0, 1), NOTHING);
        }
    }

    private static void tapeIsAll0Again() {
        HatsDecide x = new HatsDecide();
        for (int sort = 0; sort <= 4; sort++) {
            x.tape(0, sort, 60);
            for (int i = 0; i < 3; i++) {
                x.item(0, i * 29, 1);
            }
            Check.due("the same again", x.tape(0, sort, 60), 1);
            for (int i = 0; i < 60; i++) {
                Check.due("item " + i, x.read(0, i), 0);
            }
        }
        x.item(0, 5, 1);
        x.tape(0, -1, 0);
        x.tape(0, 4, 6);
        Check.due("all 0 behind nothing", x.read(0, 5), 0);
        x.item(0, 5, 1);
        x.tape(0, 4, 2);
        x.tape(0, 4, 6);
        Check.due("all 0 behind a shorter one", x.read(0, 5), 0);
    }

    private static void itemOfNothing() {
        HatsDecide x = new HatsDecide();
        int[] places = {-1, 0, 60, LEAST, GREATEST};
        for (int i : places) {
            Check.due("item at " + i, x.item(2, i, 1), NOTHING);
        }
    }

    private static void itemOfNoPlace() {
        HatsDecide x = new HatsDecide();
        x.tape(2, 2, 4);
        Check.beyond("item", 0, 3, PLACE, n -> x.item(2, n, 1));
        Check.due("the first", x.item(2, 0, 5), 1);
        Check.due("the last", x.item(2, 3, 6), 1);
        Check.due("first and last", x.read(2, 0) * 10 + x.read(2, 3), 56);
        Check.due("no other", x.read(2, 1) + x.read(2, 2), 0);
    }

    private static void itemsOfAnEmptyRow() {
        HatsDecide x = new HatsDecide();
        x.tape(3, 1, 0);
        Check.beyond("item", 0, -1, PLACE, n -> x.item(3, n, 1));
        Check.beyond("read", 0, -1, NO, n -> x.read(3, n));
        Check.due("shift of it in itself", x.shift(3, 0, 3, 0, 0), 0);
    }

    private static void item(int sort, long v, long due) {
        HatsDecide x = new HatsDecide();
        x.tape(0, sort, 1);
        Check.due("item", x.item(0, 0, v), 1);
        Check.due(v + " of sort " + sort, x.read(0, 0), due);
    }

    private static void bytesAndShortsWrap() {
        item(0, 127, 127);
        item(0, 128, -128);
        item(0, -128, -128);
        item(0, -129, 127);
        item(0, 255, -1);
        item(0, 256, 0);
        item(0, Long.MIN_VALUE, 0);
        item(0, Long.MAX_VALUE, -1);
        item(1, 32767, 32767);
        item(1, 32768, -32768);
        item(1, -32768, -32768);
        item(1, -32769, 32767);
        item(1, 65535, -1);
        item(1, 65536, 0);
        item(1, Long.MIN_VALUE, 0);
        item(1, Long.MAX_VALUE, -1);
    }

    private static void intsAndLongsWrap() {
        item(2, 2147483647L, 2147483647L);
        item(2, 2147483648L, -2147483648L);
        item(2, -2147483648L, -2147483648L);
        item(2, -2147483649L, 2147483647L);
        item(2, 4294967295L, -1);
        item(2, 4294967296L, 0);
        item(2, Long.MIN_VALUE, 0);
        item(2, Long.MAX_VALUE, -1);
        item(3, Long.MAX_VALUE, Long.MAX_VALUE);
        item(3, Long.MIN_VALUE, Long.MIN_VALUE);
        item(3, 4294967296L, 4294967296L);
        item(3, -1, -1);
    }

    private static void booleansAre0Or1() {
        item(4, 0, 0);
        item(4, 1, 1);
        item(4, 2, 1);
        item(4, -1, 1);
        item(4, 256, 1);
        item(4, 4294967296L, 1);
        item(4, Long.MIN_VALUE, 1);
        item(4, Long.MAX_VALUE, 1);
    }

    private static void readOfNothing() {
        HatsDecide x = new HatsDecide();
        x.tape(0, 0, 2);
        Check.beyond("TAPE", 0, 5, NO, n -> x.read(n, 0));
        Check.beyond("place", 0, 1, NO, n -> x.read(0, n));
        Check.due("a TAPE that holds nothing", x.read(1, 0), NO);
        Check.due("0 is there", x.read(0, 0), 0);
        Check.due("1 is there", x.read(0, 1), 0);
        x.tape(0, -1, 2);
        Check.due("nothing then", x.read(0, 0), NO);
    }

    private static void readOfTheLeastLong() {
        HatsDecide x = new HatsDecide();
        x.tape(0, 3, 1);
        x.item(0, 0, NO);
        Check.due("it is an item, though it looks like NO", x.read(0, 0), NO);
        x.item(0, 0, NO + 1);
        Check.due("the next", x.read(0, 0), NO + 1);
    }

    /** TAPE 0 has 1 to 5, TAPE 1 has 6 to 8. */
    private static HatsDecide two() {
        HatsDecide x = new HatsDecide();
        Check.bytes(x, 0, 1, 2, 3, 4, 5);
        Check.bytes(x, 1, 6, 7, 8);
        return x;
    }

    private static void holds(String what, HatsDecide x, int tape, int... items) {
        for (int i = 0; i < items.length; i++) {
            Check.due(what + ": item " + i, x.read(tape, i), items[i]);
        }
        Check.due(what + ": its end", x.read(tape, items.length), NO);
    }

    private static void asBefore(String what, HatsDecide x) {
        holds(what + ", the one", x, 0, 1, 2, 3, 4, 5);
        holds(what + ", the other", x, 1, 6, 7, 8);
    }

    private static void shiftOfNoTape() {
        HatsDecide x = two();
        Check.beyond("from", 0, 5, NONE, n -> x.shift(n, 0, 1, 0, 1));
        Check.beyond("to", 0, 5, NONE, n -> x.shift(0, 0, n, 0, 1));
        Check.beyond("both", 0, 5, NONE, n -> x.shift(n, 0, n, 0, 1));
        asBefore("no such TAPE", x);
    }

    private static void shiftOfNothing() {
        HatsDecide x = two();
        Check.due("from nothing", x.shift(2, 0, 0, 0, 0), NOTHING);
        Check.due("to nothing", x.shift(0, 0, 2, 0, 0), NOTHING);
        Check.due("both", x.shift(2, 0, 3, 0, 0), NOTHING);
        Check.due("in itself", x.shift(2, 0, 2, 0, 0), NOTHING);
        asBefore("nothing there", x);
    }

    private static void shiftOfUnlikeSorts() {
        for (int from = 0; from <= 4; from++) {
            for (int to = 0; to <= 4; to++) {
                HatsDecide x = new HatsDecide();
                x.tape(0, from, 2);
                x.tape(1, to, 2);
                x.item(0, 0, 1);
                Check.due(from + " to " + to, x.shift(0, 0, 1, 1, 1), from == to ? 1 : CAST);
                Check.due("what came", x.read(1, 1), from == to ? 1 : 0);
                Check.due("none at all", x.shift(0, 2, 1, 2, 0), from == to ? 0 : CAST);
            }
        }
    }

    private static void shiftBelow0() {
        HatsDecide x = two();
        int[] below = {-1, -2, LEAST};
        for (int n : below) {
            Check.due("i " + n, x.shift(0, n, 1, 0, 1), PLACE);
            Check.due("i " + n + ", no items", x.shift(0, n, 1, 0, 0), PLACE);
            Check.due("j " + n, x.shift(0, 0, 1, n, 1), PLACE);
            Check.due("j " + n + ", no items", x.shift(0, 0, 1, n, 0), PLACE);
            Check.due("n " + n, x.shift(0, 2, 1, 2, n), PLACE);
        }
        Check.due("all", x.shift(0, -1, 1, -1, -1), PLACE);
        asBefore("below 0", x);
    }

    private static void shiftBeyondTheEnds() {
        HatsDecide x = two();
        Check.due("n beyond the one's end", x.shift(1, 1, 0, 0, 3), PLACE);
        Check.due("n beyond the other's end", x.shift(0, 0, 1, 1, 3), PLACE);
        Check.due("n beyond both", x.shift(0, 0, 1, 0, 6), PLACE);
        Check.due("i beyond its end", x.shift(0, 6, 1, 0, 0), PLACE);
        Check.due("j beyond its end", x.shift(0, 0, 1, 4, 0), PLACE);
        Check.due("from the end", x.shift(0, 5, 1, 0, 1), PLACE);
        Check.due("to the end", x.shift(0, 0, 1, 3, 1), PLACE);
        Check.due("the greatest n", x.shift(0, 0, 1, 0, GREATEST), PLACE);
        Check.due("the greatest n, from 1", x.shift(0, 1, 1, 1, GREATEST), PLACE);
        Check.due("the greatest i", x.shift(0, GREATEST, 1, 0, 1), PLACE);
        Check.due("the greatest j", x.shift(0, 0, 1, GREATEST, 1), PLACE);
        Check.due("the greatest of all", x.shift(0, GREATEST, 1, GREATEST, GREATEST), PLACE);
        Check.due("beyond its own end", x.shift(0, 0, 0, 1, 5), PLACE);
        asBefore("beyond the ends", x);
    }

    private static void shiftUpToTheEnds() {
        HatsDecide x = two();
        Check.due("the last two to the last two", x.shift(0, 3, 1, 1, 2), 2);
        holds("last two", x, 1, 6, 4, 5);
        Check.due("all three to the last three", x.shift(1, 0, 0, 2, 3), 3);
        holds("last three", x, 0, 1, 2, 6, 4, 5);
        Check.due("all in itself", x.shift(0, 0, 0, 0, 5), 5);
        holds("all in itself", x, 0, 1, 2, 6, 4, 5);
        x.tape(2, 3, 60);
        x.tape(3, 3, 60);
        x.item(2, 59, 9);
        Check.due("60", x.shift(2, 0, 3, 0, 60), 60);
        Check.due("the last of 60", x.read(3, 59), 9);
        Check.due("61", x.shift(2, 0, 3, 0, 61), PLACE);
    }

    private static void shiftOfNoItems() {
        HatsDecide x = two();
        Check.due("within", x.shift(0, 2, 1, 1, 0), 0);
        Check.due("from the end to the end", x.shift(0, 5, 1, 3, 0), 0);
        asBefore("no items", x);
    }

    private static void shiftAsTheyAllWereBefore() {
        HatsDecide x = two();
        Check.due("one on", x.shift(0, 0, 0, 1, 4), 4);
        holds("one on", x, 0, 1, 1, 2, 3, 4);
        Check.due("one back", x.shift(0, 1, 0, 0, 4), 4);
        holds("one back", x, 0, 1, 2, 3, 4, 4);
        Check.due("two on", x.shift(0, 0, 0, 2, 3), 3);
        holds("two on", x, 0, 1, 2, 1, 2, 3);
        holds("the other one stays", x, 1, 6, 7, 8);
    }

    private static void shiftOfEachSort() {
        long[] given = {-128, -32768, -2147483648L, Long.MIN_VALUE, 1};
        for (int sort = 0; sort <= 4; sort++) {
            HatsDecide x = new HatsDecide();
            x.tape(4, sort, 2);
            x.tape(5, sort, 2);
            x.item(4, 1, given[sort]);
            Check.due("sort " + sort, x.shift(4, 1, 5, 0, 1), 1);
            Check.due("as it was", x.read(5, 0), given[sort]);
            Check.due("nothing else", x.read(5, 1), 0);
        }
    }
}
