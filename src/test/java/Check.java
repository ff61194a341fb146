import java.util.function.IntToLongFunction;

/** What the tests share: counting wrong answers, and calls that take many lines otherwise. */
final class Check {
    private static int wrong = 0;

    private Check() {
    }

    static void due(String call, long got, long want) {
        if (got != want) {
            wrong++;
            System.out.println(call + " answered " + got + ", due is " + want);
        }
    }

    static void yes(String what, boolean is) {
        due(what, is ? 1 : 0, 1);
    }

    /** A call that answers so just below and just above what a number may be, and farthest off. */
    static void beyond(String call, int least, int greatest, long want, IntToLongFunction with) {
        int[] beyond = {least - 1, greatest + 1, Integer.MIN_VALUE, Integer.MAX_VALUE};
        for (int n : beyond) {
            due(call + " with " + n, with.applyAsLong(n), want);
        }
    }

    /** Ends the test: with exit code 1 if an answer was wrong. */
    static void end() {
        if (wrong != 0) {
            System.out.println(wrong + " answers are not as due");
            System.exit(1);
        }
    }

    /** An object with HEADS of these SIZES. */
    static HatsDecide heads(int... sizes) {
        HatsDecide x = new HatsDecide();
        for (int size : sizes) {
            x.head(size);
        }
        return x;
    }

    /** Feeds a text sign by sign and makes it a TOWN: what town() answers. */
    static int town(HatsDecide x, String text) {
        for (int i = 0; i < text.length(); i++) {
            x.feed(text.charAt(i));
        }
        return x.town();
    }

    /** Puts HAT i on HEAD heads[i], or on none (-1). */
    static void wear(HatsDecide x, int... heads) {
        for (int hat = 0; hat < heads.length; hat++) {
            x.put(hat, -1);
        }
        for (int hat = 0; hat < heads.length; hat++) {
            x.put(hat, heads[hat]);
        }
    }

    /** A row of bytes on a TAPE. */
    static void bytes(HatsDecide x, int tape, int... items) {
        x.tape(tape, 0, items.length);
        for (int i = 0; i < items.length; i++) {
            x.item(tape, i, items[i]);
        }
    }
}
