import java.util.HashMap;
import java.util.Map;
import java.util.function.Supplier;
import java.util.function.ToLongFunction;

/**
 * "Answers: NONE, BAD, STATE, FULL; the first that a call's words name. What is answered so changes
 * nothing; what is asked changes nothing." Each refusal of each call, what goes ahead of what, and
 * that all is as it was.
 */
public final class RefusalsTest {
    private static final int NONE = HatsDecide.NONE, BAD = HatsDecide.BAD;
    private static final int STATE = HatsDecide.STATE, FULL = HatsDecide.FULL;
    private static final int NOTHING = -11, CAST = -12, PLACE = -13, SIZE = -14;
    private static final long NO = HatsDecide.NO;
    private static final int LEAST = Integer.MIN_VALUE, GREATEST = Integer.MAX_VALUE;
    private static final int[] NUMBERS = {LEAST, -2, -1, 0, 1, 2, 3, 5, 6, 10, 11, 31, GREATEST};

    private static final Map<Supplier<HatsDecide>, String> AS_IT_WAS = new HashMap<>();
    private static final Supplier<HatsDecide> NEW = States::nothing, SOME = States::some;
    private static final Supplier<HatsDecide> ALL = States::full, TEXTS = States::fullOfTexts;

    public static void main(String[] args) {
        statesDiffer();
        heads();
        hats();
        rows();
        puts();
        owns();
        skills();
        texts();
        days();
        doneAndWays();
        seen();
        books();
        images();
        takenAndCounted();
        tapes();
        items();
        shifts();
        askedWithOneNumber();
        askedWithTwoNumbers();
        askedWithThreeNumbers();
        askedWithoutNumbers();
        Check.end();
    }

    private static void unchanged(Supplier<HatsDecide> made, String call, HatsDecide x) {
        String was = AS_IT_WAS.computeIfAbsent(made, States::of);
        String is = States.of(x);
        Check.yes(call + " changed something, from\n" + was + "to\n" + is, is.equals(was));
    }

    private static void refused(Supplier<HatsDecide> made, long due, String call, ToLongFunction<HatsDecide> does) {
        HatsDecide x = made.get();
        Check.due(call, does.applyAsLong(x), due);
        unchanged(made, call, x);
    }

    /** That a change of whatever kind would be seen. */
    private static void statesDiffer() {
        differs("head", x -> x.head(1));
        differs("hat", x -> x.hat(0, 0, 0, 0, 0));
        differs("row", x -> x.row(0, 3, 9));
        differs("put", x -> x.put(2, 2));
        differs("own", x -> x.own(2, 0));
        differs("skill", x -> x.skill(2, 24));
        differs("feed", x -> x.feed('9'));
        differs("town", HatsDecide::town);
        differs("day", HatsDecide::day);
        differs("gust", x -> x.gust(1));
        differs("change", x -> x.change(0, 1));
        differs("see", x -> x.see(1, 7));
        differs("see none", x -> x.see(-1, 0));
        differs("book", x -> x.book(0, 0));
        differs("no book", x -> x.book(-1, 0));
        differs("image", HatsDecide::image);
        differs("undo", HatsDecide::undo);
        differs("act", x -> x.act(0, 0, 1));
        differs("act of no HAT", x -> x.act(9, 0, 1));
        differs("tape", x -> x.tape(5, 0, 0));
        differs("no tape", x -> x.tape(2, -1, 0));
        differs("item", x -> x.item(1, 0, 1));
        differs("shift", x -> x.shift(0, 1, 0, 0, 1));
    }

    private static void differs(String call, ToLongFunction<HatsDecide> does) {
        HatsDecide x = SOME.get();
        does.applyAsLong(x);
        Check.yes(call + " is not seen", !States.of(x).equals(States.of(SOME)));
    }

    private static void heads() {
        refused(NEW, BAD, "head(-1)", x -> x.head(-1));
        refused(SOME, BAD, "head(10)", x -> x.head(10));
        refused(ALL, FULL, "head(0)", x -> x.head(0));
        refused(ALL, BAD, "head(10), BAD ahead of FULL", x -> x.head(10));
    }

    private static void hats() {
        for (Supplier<HatsDecide> made : java.util.List.of(NEW, SOME, ALL)) {
            refused(made, NONE, "KIND", x -> x.hat(7, 0, 0, 0, 0));
            refused(made, NONE, "TRADE", x -> x.hat(0, 0, 0, 0, 5));
            refused(made, BAD, "v", x -> x.hat(0, 10, 0, 0, 0));
            refused(made, BAD, "SIZE", x -> x.hat(0, 0, -1, 0, 0));
            refused(made, BAD, "SKILL", x -> x.hat(0, 0, 0, 51, 0));
            refused(made, NONE, "KIND ahead of v", x -> x.hat(-1, -1, 0, 0, 0));
            refused(made, NONE, "TRADE ahead of v", x -> x.hat(0, 10, 0, 0, -1));
            refused(made, NONE, "TRADE ahead of SIZE", x -> x.hat(0, 0, 10, 0, 5));
            refused(made, NONE, "TRADE ahead of SKILL", x -> x.hat(0, 0, 0, -1, 5));
        }
        refused(ALL, FULL, "seventh", x -> x.hat(6, 9, 9, 50, 4));
    }

    private static void rows() {
        refused(NEW, NONE, "no HATS", x -> x.row(0, 0, 0));
        refused(SOME, NONE, "HAT", x -> x.row(3, 0, 0));
        refused(SOME, NONE, "part", x -> x.row(0, 4, 0));
        refused(SOME, BAD, "n", x -> x.row(0, 0, 10));
        refused(SOME, STATE, "KIND", x -> x.row(1, 0, 0));
        refused(SOME, NONE, "HAT ahead of n", x -> x.row(-1, 0, 10));
        refused(SOME, NONE, "part ahead of n", x -> x.row(0, -1, -1));
        refused(SOME, NONE, "part ahead of KIND", x -> x.row(1, 4, 0));
        refused(SOME, BAD, "n ahead of KIND", x -> x.row(1, 0, -1));
        refused(SOME, NONE, "part ahead of all", x -> x.row(1, 4, 10));
    }

    private static void puts() {
        refused(NEW, NONE, "no HATS", x -> x.put(0, -1));
        refused(SOME, NONE, "HAT", x -> x.put(3, 2));
        refused(SOME, NONE, "HEAD", x -> x.put(0, 3));
        refused(SOME, NONE, "HEAD below -1", x -> x.put(0, -2));
        refused(SOME, STATE, "another one, from none", x -> x.put(2, 0));
        refused(SOME, STATE, "another one, from a HEAD", x -> x.put(0, 1));
        refused(SOME, NONE, "HAT ahead of another one", x -> x.put(3, 0));
        refused(ALL, STATE, "all have one on", x -> x.put(0, 0));
    }

    private static void owns() {
        refused(NEW, NONE, "no HEADS", x -> x.own(0, -1));
        refused(SOME, NONE, "HEAD", x -> x.own(3, 0));
        refused(SOME, NONE, "HAT", x -> x.own(0, 3));
        refused(SOME, NONE, "HAT below -1", x -> x.own(0, -2));
    }

    private static void skills() {
        refused(NEW, NONE, "no HATS", x -> x.skill(0, 0));
        refused(SOME, NONE, "HAT", x -> x.skill(3, 0));
        refused(SOME, BAD, "n", x -> x.skill(0, 51));
        refused(SOME, BAD, "n below 0", x -> x.skill(0, -1));
        refused(SOME, NONE, "HAT ahead of n", x -> x.skill(-1, 51));
    }

    private static void texts() {
        refused(SOME, BAD, "sign", x -> x.feed(128));
        refused(TEXTS, BAD, "sign ahead of FULL", x -> x.feed(-1));
        refused(TEXTS, FULL, "101st", x -> x.feed(';'));
        refused(TEXTS, FULL, "seventh TOWN, ahead of a FAULT", HatsDecide::town);
        refused(SOME, NONE, "told", x -> x.told(2));
    }

    private static void days() {
        refused(SOME, BAD, "gust", x -> x.gust(6));
        refused(NEW, BAD, "gust of none", x -> x.gust(-1));
        refused(SOME, NONE, "change, one", x -> x.change(3, 0));
        refused(SOME, NONE, "change, other", x -> x.change(0, 3));
        refused(SOME, BAD, "change of one", x -> x.change(0, 0));
        refused(SOME, NONE, "change of none ahead of one", x -> x.change(3, 3));
        refused(NEW, NONE, "change, no HEADS", x -> x.change(0, 0));
    }

    private static void doneAndWays() {
        refused(SOME, NONE, "today", x -> x.today(5));
        refused(NEW, NONE, "best", x -> x.best(0));
        refused(SOME, NONE, "on, TRADE", x -> x.on(-1, 1));
        refused(SOME, BAD, "on, n", x -> x.on(0, 31));
        refused(SOME, NONE, "on, TRADE ahead of n", x -> x.on(5, -1));
        refused(SOME, NONE, "lasts", x -> x.lasts(5));
        refused(SOME, NONE, "by", x -> x.by(6));
        refused(SOME, BAD, "gusted", x -> x.gusted(6));
        refused(SOME, -10001, "quarrel, HAT", x -> x.quarrel(0, 3, 0));
        refused(SOME, -10001, "quarrel, HEAD", x -> x.quarrel(0, 1, 3));
        refused(SOME, -10002, "quarrel of one", x -> x.quarrel(0, 0, 0));
        refused(SOME, -10001, "quarrel, HAT ahead of one", x -> x.quarrel(3, 3, 0));
        refused(SOME, -10001, "quarrel, HEAD ahead of one", x -> x.quarrel(0, 0, 3));
        refused(SOME, NONE, "how", x -> x.how(2));
        refused(SOME, -10001, "of", x -> x.of(0, 7));
        refused(SOME, NONE, "at", x -> x.at(0, 3));
    }

    private static void seen() {
        refused(NEW, NONE, "no HATS", x -> x.see(0, 0));
        refused(SOME, NONE, "HAT", x -> x.see(3, 0));
        refused(SOME, NONE, "HAT below -1", x -> x.see(-2, 0));
        refused(SOME, BAD, "DEED", x -> x.see(0, 1000));
        refused(SOME, NONE, "HAT ahead of DEED", x -> x.see(3, -1));
        refused(ALL, FULL, "seventh", x -> x.see(0, 0));
        refused(ALL, BAD, "DEED ahead of FULL", x -> x.see(0, -1));
        refused(ALL, NONE, "HAT ahead of FULL", x -> x.see(6, 0));
        refused(ALL, NONE, "HAT ahead of both", x -> x.see(6, 1000));
        refused(SOME, NONE, "wore", x -> x.wore(3));
        refused(NEW, NO, "odds without HEADS", x -> x.odds(0, 0));
        refused(SOME, NO, "odds, TRADE", x -> x.odds(5, 0));
        refused(SOME, NO, "odds, part", x -> x.odds(0, 2));
        refused(SOME, NO, "mean, HAT", x -> x.mean(3, 0));
        refused(SOME, NO, "mean, part", x -> x.mean(0, -1));
    }

    private static void books() {
        refused(NEW, NONE, "no HATS", x -> x.book(0, 0));
        refused(SOME, NONE, "HAT", x -> x.book(3, 0));
        refused(SOME, NONE, "HAT below -1", x -> x.book(-2, 0));
        refused(SOME, NONE, "HEAD", x -> x.book(0, 3));
        refused(SOME, NONE, "HEAD -1", x -> x.book(0, -1));
        refused(ALL, FULL, "ninth", x -> x.book(0, 1));
        refused(ALL, NONE, "HAT ahead of FULL", x -> x.book(6, 0));
        refused(ALL, NONE, "HEAD ahead of FULL", x -> x.book(0, 6));
    }

    private static void images() {
        refused(NEW, STATE, "no IMAGE", HatsDecide::undo);
        refused(ALL, STATE, "no IMAGE of all", HatsDecide::undo);
        refused(SOME, NONE, "trace", x -> x.trace(20));
        refused(SOME, NONE, "judge", x -> x.judge(6, 0));
        refused(SOME, CAST, "judge ints", x -> x.judge(1, 0));
        refused(SOME, NONE, "judge, TAPE ahead of the place", x -> x.judge(-1, -1));
        refused(SOME, 100, "judge from below 0", x -> x.judge(0, -1));
        refused(SOME, 100, "judge nothing", x -> x.judge(3, 0));
    }

    private static void takenAndCounted() {
        refused(SOME, BAD, "k", x -> x.taken(0, 7));
        refused(SOME, NOTHING, "HAT", x -> x.taken(3, 0));
        refused(SOME, CAST, "KIND", x -> x.taken(0, 1));
        refused(SOME, BAD, "k ahead of HAT", x -> x.taken(3, -1));
        refused(NEW, NOTHING, "no HATS", x -> x.taken(0, 6));
        refused(SOME, BAD, "count", x -> x.count(7));
    }

    private static void tapes() {
        refused(SOME, NONE, "TAPE", x -> x.tape(6, 0, 1));
        refused(SOME, NONE, "TAPE to hold nothing", x -> x.tape(-1, -1, 1));
        refused(SOME, BAD, "sort", x -> x.tape(0, 5, 1));
        refused(SOME, BAD, "n", x -> x.tape(0, 0, 61));
        refused(SOME, SIZE, "SIZE", x -> x.tape(0, 0, -1));
        refused(SOME, NONE, "TAPE ahead of sort", x -> x.tape(6, 5, 1));
        refused(SOME, NONE, "TAPE ahead of n", x -> x.tape(6, 0, 61));
        refused(SOME, NONE, "TAPE ahead of SIZE", x -> x.tape(6, 0, -1));
        refused(SOME, BAD, "sort ahead of SIZE", x -> x.tape(0, -2, -1));
    }

    private static void items() {
        refused(SOME, NONE, "TAPE", x -> x.item(6, 0, 1));
        refused(SOME, NOTHING, "nothing there", x -> x.item(3, 0, 1));
        refused(SOME, PLACE, "place", x -> x.item(0, 4, 1));
        refused(SOME, PLACE, "place below 0", x -> x.item(0, -1, 1));
        refused(SOME, PLACE, "place of an empty row", x -> x.item(2, 0, 1));
        refused(SOME, NONE, "TAPE ahead of place", x -> x.item(-1, -1, 1));
        refused(SOME, NOTHING, "nothing ahead of place", x -> x.item(3, -1, 1));
        refused(SOME, NO, "read", x -> x.read(0, 4));
    }

    private static void shifts() {
        refused(SOME, NONE, "from", x -> x.shift(6, 0, 0, 0, 1));
        refused(SOME, NONE, "to", x -> x.shift(0, 0, 6, 0, 1));
        refused(SOME, NOTHING, "from nothing", x -> x.shift(3, 0, 0, 0, 1));
        refused(SOME, NOTHING, "to nothing", x -> x.shift(0, 0, 3, 0, 1));
        refused(SOME, CAST, "bytes to ints", x -> x.shift(0, 0, 1, 0, 1));
        refused(SOME, CAST, "ints to bytes", x -> x.shift(1, 0, 0, 0, 1));
        refused(SOME, PLACE, "i", x -> x.shift(0, 4, 0, 0, 1));
        refused(SOME, PLACE, "j", x -> x.shift(0, 0, 0, 4, 1));
        refused(SOME, PLACE, "n", x -> x.shift(0, 0, 0, 1, 4));
        refused(SOME, PLACE, "n below 0", x -> x.shift(0, 1, 0, 0, -1));
        refused(SOME, PLACE, "to an empty row", x -> x.shift(0, 0, 2, 0, 1));
        refused(SOME, NONE, "to no TAPE ahead of from nothing", x -> x.shift(3, 0, 6, 0, 1));
        refused(SOME, NONE, "from no TAPE ahead of to nothing", x -> x.shift(-1, 0, 3, 0, 1));
        refused(SOME, NONE, "no TAPE ahead of place", x -> x.shift(0, -1, 6, 0, 1));
        refused(SOME, NOTHING, "nothing ahead of sorts", x -> x.shift(1, 0, 3, 0, 1));
        refused(SOME, NOTHING, "nothing ahead of place", x -> x.shift(3, -1, 0, 9, -1));
        refused(SOME, CAST, "sorts ahead of place", x -> x.shift(0, -1, 1, 0, 1));
        refused(SOME, CAST, "sorts ahead of n", x -> x.shift(0, 0, 1, 0, -1));
    }

    /** What is only asked: the same answer again, and all as it was. */
    private static void asked(String call, ToLongFunction<HatsDecide> does) {
        for (Supplier<HatsDecide> made : java.util.List.of(NEW, SOME, ALL, TEXTS)) {
            HatsDecide x = made.get();
            long answer = does.applyAsLong(x);
            Check.due(call + " again", does.applyAsLong(x), answer);
            unchanged(made, call, x);
        }
    }

    private static void askedWithoutNumbers() {
        asked("enough", HatsDecide::enough);
        asked("can", HatsDecide::can);
        asked("back", HatsDecide::back);
        asked("lucky", HatsDecide::lucky);
        asked("swap", HatsDecide::swap);
        asked("who", HatsDecide::who);
        asked("looked", HatsDecide::looked);
    }

    private static void askedWithOneNumber() {
        for (int n : NUMBERS) {
            asked("told " + n, x -> x.told(n));
            asked("today " + n, x -> x.today(n));
            asked("best " + n, x -> x.best(n));
            asked("lasts " + n, x -> x.lasts(n));
            asked("by " + n, x -> x.by(n));
            asked("gusted " + n, x -> x.gusted(n));
            asked("how " + n, x -> x.how(n));
            asked("wore " + n, x -> x.wore(n));
            asked("trace " + n, x -> x.trace(n));
            asked("count " + n, x -> x.count(n));
        }
    }

    private static void askedWithTwoNumbers() {
        for (int n : NUMBERS) {
            for (int m : NUMBERS) {
                asked("of " + n + " " + m, x -> x.of(n, m));
                asked("at " + n + " " + m, x -> x.at(n, m));
                asked("on " + n + " " + m, x -> x.on(n, m));
                asked("odds " + n + " " + m, x -> x.odds(n, m));
                asked("mean " + n + " " + m, x -> x.mean(n, m));
                asked("judge " + n + " " + m, x -> x.judge(n, m));
                asked("taken " + n + " " + m, x -> x.taken(n, m));
                asked("read " + n + " " + m, x -> x.read(n, m));
            }
        }
    }

    private static void askedWithThreeNumbers() {
        for (int n : NUMBERS) {
            for (int m : NUMBERS) {
                for (int head = -1; head <= 6; head++) {
                    int h = head;
                    asked("quarrel " + n + " " + m + " " + h, x -> x.quarrel(n, m, h));
                }
            }
        }
    }
}
