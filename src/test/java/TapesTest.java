/** Promises 43 to 46: tapes. */
public final class TapesTest {
    private static final int NONE = HatsDecide.NONE, BAD = HatsDecide.BAD;
    private static final int NOTHING = -11, CAST = -12, PLACE = -13, SIZE = -14;
    private static final long NO = HatsDecide.NO;

    public static void main(String[] args) {
        tape();
        item();
        read();
        shift();
        shiftRefuses();
        Check.end();
    }

    private static void tape() {
        HatsDecide x = new HatsDecide();
        for (int sort = 0; sort < 5; sort++) {
            Check.due("sort " + sort, x.tape(sort, sort, 60), 1);
            Check.due("last item", x.read(sort, 59), 0);
            Check.due("no more", x.read(sort, 60), NO);
        }
        x.item(1, 30, 5);
        Check.due("again", x.tape(1, 1, 40), 1);
        Check.due("all 0", x.read(1, 30), 0);
        Check.due("shorter", x.read(1, 40), NO);
        Check.due("no items", x.tape(1, 3, 0), 1);
        Check.due("none there", x.item(1, 0, 1), PLACE);
        Check.due("holds nothing", x.tape(1, -1, Integer.MIN_VALUE), 1);
        Check.due("nothing there", x.item(1, 0, 1), NOTHING);
        Check.due("sort 5", x.tape(1, 5, -1), BAD);
        Check.due("sort -2", x.tape(1, -2, 1), BAD);
        Check.due("61", x.tape(1, 0, 61), BAD);
        Check.due("below 0", x.tape(1, 0, -1), SIZE);
        Check.due("still nothing", x.item(1, 0, 1), NOTHING);
        Check.due("tape 6", x.tape(6, 5, 0), NONE);
        Check.due("tape -1", x.tape(-1, -1, 0), NONE);
    }

    private static void item() {
        HatsDecide x = new HatsDecide();
        for (int sort = 0; sort < 5; sort++) {
            x.tape(sort, sort, 3);
        }
        long[] given = {0, -1, 127, 128, 32768, 65536, 1L << 31, 1L << 32, 0x123456789ABCDEFL,
            Long.MIN_VALUE, Long.MAX_VALUE};
        for (long v : given) {
            long[] due = {(byte) v, (short) v, (int) v, v, v == 0 ? 0 : 1};
            for (int sort = 0; sort < 5; sort++) {
                Check.due("item", x.item(sort, 1, v), 1);
                Check.due(v + " as sort " + sort, x.read(sort, 1), due[sort]);
            }
        }
        Check.due("the others stay", x.read(3, 0) + x.read(3, 2), 0);
        Check.due("place 3", x.item(0, 3, 1), PLACE);
        Check.due("place -1", x.item(0, -1, 1), PLACE);
        Check.due("farthest place", x.item(0, Integer.MAX_VALUE, 1), PLACE);
        Check.due("nothing there", x.item(5, -1, 1), NOTHING);
        Check.due("tape 6", x.item(6, 0, 1), NONE);
        Check.due("tape -1", x.item(-1, 0, 1), NONE);
    }

    private static void read() {
        HatsDecide x = new HatsDecide();
        Check.due("nothing there", x.read(0, 0), NO);
        x.tape(0, 2, 2);
        x.item(0, 1, -9);
        Check.due("first", x.read(0, 0), 0);
        Check.due("last", x.read(0, 1), -9);
        Check.due("behind", x.read(0, 2), NO);
        Check.due("ahead", x.read(0, -1), NO);
        Check.due("tape 6", x.read(6, 0), NO);
        Check.due("tape -1", x.read(-1, 0), NO);
        x.tape(0, -1, 0);
        Check.due("nothing then", x.read(0, 0), NO);
    }

    private static HatsDecide row() {
        HatsDecide x = new HatsDecide();
        Check.bytes(x, 0, 1, 2, 3, 4, 5);
        Check.bytes(x, 1, 6, 7, 8);
        return x;
    }

    private static void holds(String what, HatsDecide x, int tape, int... items) {
        for (int i = 0; i < items.length; i++) {
            Check.due(what + ", item " + i, x.read(tape, i), items[i]);
        }
        Check.due(what + ", end", x.read(tape, items.length), NO);
    }

    private static void shift() {
        HatsDecide x = row();
        Check.due("to another", x.shift(0, 3, 1, 1, 2), 2);
        holds("to another", x, 1, 6, 4, 5);
        holds("from it", x, 0, 1, 2, 3, 4, 5);
        Check.due("onwards in itself", x.shift(0, 0, 0, 1, 4), 4);
        holds("onwards in itself", x, 0, 1, 1, 2, 3, 4);
        Check.due("back in itself", x.shift(0, 2, 0, 0, 3), 3);
        holds("back in itself", x, 0, 2, 3, 4, 3, 4);
        Check.due("none", x.shift(0, 5, 1, 3, 0), 0);
        Check.due("all", x.shift(1, 0, 0, 0, 3), 3);
        holds("all", x, 0, 6, 4, 5, 3, 4);
    }

    private static void shiftRefuses() {
        HatsDecide x = row();
        x.tape(2, 1, 5);
        Check.due("n beyond the end", x.shift(0, 3, 1, 0, 3), PLACE);
        Check.due("n beyond the other's end", x.shift(0, 0, 1, 1, 3), PLACE);
        Check.due("i beyond the end", x.shift(0, 6, 1, 0, 0), PLACE);
        Check.due("j beyond the end", x.shift(0, 0, 1, 4, 0), PLACE);
        Check.due("i below 0", x.shift(0, -1, 1, 0, 1), PLACE);
        Check.due("j below 0", x.shift(0, 0, 1, -1, 1), PLACE);
        Check.due("n below 0", x.shift(0, 1, 1, 1, -1), PLACE);
        Check.due("the farthest n", x.shift(0, 1, 1, 1, Integer.MAX_VALUE), PLACE);
        Check.due("the farthest i", x.shift(0, Integer.MAX_VALUE, 1, 1, 1), PLACE);
        Check.due("the farthest j", x.shift(0, 1, 1, Integer.MAX_VALUE, 1), PLACE);
        Check.due("unlike sorts", x.shift(0, 9, 2, 0, 1), CAST);
        Check.due("nothing to come to", x.shift(2, 9, 3, 0, 1), NOTHING);
        Check.due("nothing to come from", x.shift(3, 9, 2, 0, 1), NOTHING);
        Check.due("tape 6", x.shift(6, 0, 3, 0, 1), NONE);
        Check.due("tape -1", x.shift(0, 0, -1, 0, 1), NONE);
        holds("nothing changed", x, 0, 1, 2, 3, 4, 5);
        holds("nor there", x, 1, 6, 7, 8);
    }
}
