import java.util.ArrayDeque;
import java.util.ArrayList;
import java.util.Arrays;
import java.util.HashMap;
import java.util.List;
import java.util.Map;
import java.util.regex.Matcher;
import java.util.regex.Pattern;

/**
 * The document once more, for ModelTest: as slow and as plain as it can be told, and on other
 * ways than the program's wherever there are others (patterns for THE TEXT, all ways for BY, CAN
 * and WHO, a search through all CHANGES for BACK, a table of bodies for ACTS).
 */
final class Model {
    static final int NONE = -1, BAD = -2, STATE = -3, FULL = -4;
    static final long NO = Long.MIN_VALUE;
    static final int NOTHING = -11, CAST = -12, PLACE = -13, SIZE = -14;

    private static final int[] ABOVE = {-1, 0, 0, 0, 1, 2, 3};
    private static final Pattern TEXT = Pattern.compile(textPattern());
    private static final Map<String, Integer> FAULTS = new HashMap<>();

    static final class One {
        int kind, v, size, skill, trade, used;
        int[] row = new int[4];

        One copy() {
            One c = new One();
            c.kind = kind;
            c.v = v;
            c.size = size;
            c.skill = skill;
            c.trade = trade;
            c.used = used;
            c.row = row.clone();
            return c;
        }
    }

    static final class All {
        List<Integer> sizes = new ArrayList<>();
        List<Integer> owns = new ArrayList<>();
        List<One> hats = new ArrayList<>();
        List<Integer> whom = new ArrayList<>();
        int day;
        long[] done = new long[5];
        List<int[]> seen = new ArrayList<>();
        List<int[]> booked = new ArrayList<>();
        String town = "";

        All copy() {
            All c = new All();
            c.sizes.addAll(sizes);
            c.owns.addAll(owns);
            for (One hat : hats) {
                c.hats.add(hat.copy());
            }
            c.whom.addAll(whom);
            c.day = day;
            c.done = done.clone();
            c.seen.addAll(seen);
            c.booked.addAll(booked);
            c.town = town;
            return c;
        }
    }

    private All all = new All();
    private All kept = null;
    private String text = "";
    private int towns = 0;
    private List<Integer> trace = new ArrayList<>();
    private final long[][] tapes = new long[6][];
    private final int[] sorts = {-1, -1, -1, -1, -1, -1};

    // ---- THE TEXT

    private static String textPattern() {
        String n = "[0-9][0-9]?";
        String test = "[aektud][<=>]" + n;
        String part = test;
        for (int within = 3; within >= 0; within--) {
            part = "(?:" + test + "|!" + part + "|\\(" + part + "(?:[&|]" + part + ")*+\\))";
        }
        String clause = "(?:(?:suit|gall) " + n + " " + part + "(?:[&|]" + part + ")*+|moth " + n
                + "|work " + n + " " + n + ")";
        return clause + "(?:;" + clause + "){0,9}";
    }

    /** -1, or how long the longest beginning is that a longer or this text can have. */
    private static int fault(String text) {
        if (FAULTS.containsKey(text)) {
            return FAULTS.get(text);
        }
        int fault = -1;
        for (int length = text.length(); length >= 0; length--) {
            Matcher matcher = TEXT.matcher(text.substring(0, length));
            boolean whole = matcher.matches();
            if (length == text.length() && whole) {
                break;
            }
            if (whole || matcher.hitEnd()) {
                fault = length;
                break;
            }
        }
        FAULTS.put(text, fault);
        return fault;
    }

    private static boolean holds(String e, int[] numbers) {
        int or = joint(e, '|');
        if (or >= 0) {
            boolean left = holds(e.substring(0, or), numbers);
            return holds(e.substring(or + 1), numbers) || left;
        }
        int and = joint(e, '&');
        if (and >= 0) {
            boolean left = holds(e.substring(0, and), numbers);
            return holds(e.substring(and + 1), numbers) && left;
        }
        if (e.charAt(0) == '!') {
            return !holds(e.substring(1), numbers);
        }
        if (e.charAt(0) == '(') {
            return holds(e.substring(1, e.length() - 1), numbers);
        }
        int is = numbers["aektud".indexOf(e.charAt(0))];
        int n = Integer.parseInt(e.substring(2));
        return e.charAt(1) == '<' ? is < n : e.charAt(1) == '=' ? is == n : is > n;
    }

    private static int joint(String e, char sign) {
        int open = 0;
        for (int i = 0; i < e.length(); i++) {
            open += e.charAt(i) == '(' ? 1 : e.charAt(i) == ')' ? -1 : 0;
            if (open == 0 && e.charAt(i) == sign) {
                return i;
            }
        }
        return -1;
    }

    private List<String[]> clauses() {
        List<String[]> clauses = new ArrayList<>();
        if (!all.town.isEmpty()) {
            for (String clause : all.town.split(";")) {
                clauses.add(clause.split(" "));
            }
        }
        return clauses;
    }

    private int fits(int hat, int head, int used, int day) {
        One one = all.hats.get(hat);
        int[] numbers = {hat, head, one.kind, one.trade, used % 10, day % 7};
        int sum = 0;
        for (String[] clause : clauses()) {
            if ((clause[0].equals("suit") || clause[0].equals("gall")) && holds(clause[2], numbers)) {
                int n = Integer.parseInt(clause[1]);
                sum += clause[0].equals("suit") ? n : -n;
            }
        }
        return sum;
    }

    private int moth() {
        int moth = 0;
        for (String[] clause : clauses()) {
            moth = clause[0].equals("moth") ? Integer.parseInt(clause[1]) : moth;
        }
        return moth;
    }

    private int work(int trade) {
        int work = 10;
        for (String[] clause : clauses()) {
            boolean is = clause[0].equals("work") && Integer.parseInt(clause[1]) == trade;
            work = is ? Integer.parseInt(clause[2]) : work;
        }
        return work;
    }

    // ---- DEED, TODAY

    private int deedAs(int kind, int hat, int head, int used, int day) {
        One one = all.hats.get(hat);
        int apart = Math.abs(one.size - all.sizes.get(head));
        if (kind == 0) {
            return Math.max(0, one.skill + fits(hat, head, used, day));
        }
        int as = deedAs(ABOVE[kind], hat, head, used, day);
        switch (kind) {
            case 1: return Math.max(0, as - 2 * apart);
            case 2: return Math.max(0, as - moth() * used / 4);
            case 3: return as + one.v;
            case 4: return apart == 0 ? as : 0;
            case 5: return Math.max(0, as - one.v);
            default: return as + one.row[day % 4];
        }
    }

    private int deed(int hat, int head) {
        return deedAs(all.hats.get(hat).kind, hat, head, all.hats.get(hat).used, all.day);
    }

    private int todayOf(int trade, List<Integer> whom, int ahead) {
        int sum = 0;
        for (int hat = 0; hat < all.hats.size(); hat++) {
            One one = all.hats.get(hat);
            if (whom.get(hat) >= 0 && (trade < 0 || one.trade == trade)) {
                sum += deedAs(one.kind, hat, whom.get(hat), one.used + ahead, all.day + ahead);
            }
        }
        return sum;
    }

    private int todayOf(int trade) {
        return todayOf(trade, all.whom, 0);
    }

    private List<Integer> blown(int g) {
        List<Integer> whom = new ArrayList<>();
        for (int head : all.whom) {
            whom.add(head < 0 ? -1 : (head + g) % all.sizes.size());
        }
        return whom;
    }

    private boolean isHat(int hat) {
        return hat >= 0 && hat < all.hats.size();
    }

    private boolean isHead(int head) {
        return head >= 0 && head < all.sizes.size();
    }

    private static boolean in(int n, int from, int to) {
        return from <= n && n <= to;
    }

    private int on(int head) {
        return all.whom.indexOf(head);
    }

    private static int five(int n) {
        return n < 0 ? -5 : n;
    }

    // ---- the calls, in the order of the face

    int head(int size) {
        if (!in(size, 0, 9)) {
            return BAD;
        }
        if (all.sizes.size() == 6) {
            return FULL;
        }
        all.sizes.add(size);
        all.owns.add(-1);
        return all.sizes.size() - 1;
    }

    int hat(int kind, int v, int size, int skill, int trade) {
        if (!in(kind, 0, 6) || !in(trade, 0, 4)) {
            return NONE;
        }
        if (!in(v, 0, 9) || !in(size, 0, 9) || !in(skill, 0, 50)) {
            return BAD;
        }
        if (all.hats.size() == 6) {
            return FULL;
        }
        One one = new One();
        one.kind = kind;
        one.v = v;
        one.size = size;
        one.skill = skill;
        one.trade = trade;
        all.hats.add(one);
        all.whom.add(-1);
        return all.hats.size() - 1;
    }

    int of(int hat, int what) {
        if (!isHat(hat) || !(in(what, 0, 6) || in(what, 10, 9 + all.sizes.size()))) {
            return -10001;
        }
        if (what >= 10) {
            return deed(hat, what - 10);
        }
        One one = all.hats.get(hat);
        int[] of = {one.kind, one.v, one.size, one.skill, one.trade, one.used, five(all.whom.get(hat))};
        return of[what];
    }

    int at(int head, int what) {
        if (!isHead(head) || !in(what, 0, 2)) {
            return NONE;
        }
        return what == 0 ? all.sizes.get(head) : five(what == 1 ? on(head) : all.owns.get(head));
    }

    int row(int hat, int part, int n) {
        if (!isHat(hat) || !in(part, 0, 3)) {
            return NONE;
        }
        if (!in(n, 0, 9)) {
            return BAD;
        }
        if (all.hats.get(hat).kind != 6) {
            return STATE;
        }
        int was = all.hats.get(hat).row[part];
        all.hats.get(hat).row[part] = n;
        return was;
    }

    int put(int hat, int head) {
        if (!isHat(hat) || !(head == -1 || isHead(head))) {
            return NONE;
        }
        if (head >= 0 && on(head) >= 0 && on(head) != hat) {
            return STATE;
        }
        return five(all.whom.set(hat, head));
    }

    int own(int head, int hat) {
        if (!isHead(head) || !(hat == -1 || isHat(hat))) {
            return NONE;
        }
        return five(all.owns.set(head, hat));
    }

    int skill(int hat, int n) {
        if (!isHat(hat)) {
            return NONE;
        }
        if (!in(n, 0, 50)) {
            return BAD;
        }
        int was = all.hats.get(hat).skill;
        all.hats.get(hat).skill = n;
        return was;
    }

    int feed(int sign) {
        if (!in(sign, 0, 127)) {
            return BAD;
        }
        if (text.length() == 100) {
            return FULL;
        }
        text += (char) sign;
        return text.length();
    }

    int town() {
        if (towns == 6) {
            return FULL;
        }
        String fed = text;
        text = "";
        int fault = fault(fed);
        if (fault >= 0) {
            return -10 - fault;
        }
        all.town = fed;
        towns++;
        return towns - 1;
    }

    int told(int what) {
        if (in(what, 0, 1)) {
            return what == 0 ? all.day : moth();
        }
        if (in(what, 10, 14)) {
            return (int) all.done[what - 10];
        }
        return in(what, 20, 24) ? work(what - 20) : NONE;
    }

    int day() {
        if (all.day == 9999) {
            return STATE;
        }
        int today = todayOf(-1);
        for (int trade = 0; trade < 5; trade++) {
            all.done[trade] = Math.min(999999, all.done[trade] + todayOf(trade));
        }
        for (int hat = 0; hat < all.hats.size(); hat++) {
            if (all.whom.get(hat) >= 0) {
                all.hats.get(hat).used++;
            }
        }
        all.day++;
        return today;
    }

    int gust(int g) {
        if (!in(g, 0, 5)) {
            return BAD;
        }
        all.whom = blown(g);
        int went = 0;
        for (int head : all.whom) {
            went += head < 0 ? 0 : 1;
        }
        return went;
    }

    private static List<Integer> changed(List<Integer> whom, int one, int other) {
        List<Integer> then = new ArrayList<>();
        for (int head : whom) {
            then.add(head == one ? other : head == other ? one : head);
        }
        return then;
    }

    int change(int one, int other) {
        if (!isHead(one) || !isHead(other)) {
            return NONE;
        }
        if (one == other) {
            return BAD;
        }
        all.whom = changed(all.whom, one, other);
        return 1;
    }

    int today(int trade) {
        return in(trade, -1, 4) ? todayOf(trade) : NONE;
    }

    int enough() {
        int bits = 0;
        for (int trade = 0; trade < 5; trade++) {
            bits += todayOf(trade) >= work(trade) ? 1 << trade : 0;
        }
        return bits;
    }

    int best(int hat) {
        if (!isHat(hat)) {
            return NONE;
        }
        int best = -5;
        for (int head = all.sizes.size() - 1; head >= 0; head--) {
            if (best < 0 || deed(hat, head) >= deed(hat, best)) {
                best = head;
            }
        }
        return best;
    }

    int on(int trade, int n) {
        if (!in(trade, 0, 4)) {
            return NONE;
        }
        if (!in(n, 0, 30)) {
            return BAD;
        }
        int sum = 0;
        for (int i = 0; i < n; i++) {
            sum += todayOf(trade, all.whom, i);
        }
        return sum;
    }

    int lasts(int trade) {
        if (!in(trade, 0, 4)) {
            return NONE;
        }
        int days = 0;
        while (days <= 30 && todayOf(trade, all.whom, days) >= work(trade)) {
            days++;
        }
        return days > 30 ? -5 : days;
    }

    /** All rows of what HEADS can have on, each HAT once at most, nothing ahead of HAT 0. */
    private void rows(int[] row, int head, List<int[]> rows) {
        if (head == row.length) {
            rows.add(row.clone());
            return;
        }
        for (int hat = -1; hat < all.hats.size(); hat++) {
            boolean is = false;
            for (int h = 0; h < head; h++) {
                is |= hat >= 0 && row[h] == hat;
            }
            if (!is) {
                row[head] = hat;
                rows(row, head + 1, rows);
            }
        }
    }

    private List<int[]> rows() {
        List<int[]> rows = new ArrayList<>();
        rows(new int[all.sizes.size()], 0, rows);
        return rows;
    }

    private int[][] deeds() {
        int[][] deeds = new int[6][6];
        for (int hat = 0; hat < all.hats.size(); hat++) {
            for (int head = 0; head < all.sizes.size(); head++) {
                deeds[hat][head] = deed(hat, head);
            }
        }
        return deeds;
    }

    int by(int k) {
        if (!in(k, -1, 5)) {
            return NONE;
        }
        int[][] deeds = deeds();
        int best = -1;
        int[] bestRow = {};
        for (int[] row : rows()) {
            int sum = 0;
            int worn = 0;
            for (int head = 0; head < row.length; head++) {
                sum += row[head] < 0 ? 0 : deeds[row[head]][head];
                worn += row[head] < 0 ? 0 : 1;
            }
            if (worn == Math.min(all.hats.size(), row.length) && sum > best) {
                best = sum;
                bestRow = row;
            }
        }
        return k < 0 ? best : k < bestRow.length ? five(bestRow[k]) : -5;
    }

    int can() {
        int[][] deeds = deeds();
        int bits = 0;
        for (int[] row : rows()) {
            int[] sum = new int[5];
            for (int head = 0; head < row.length; head++) {
                if (row[head] >= 0) {
                    sum[all.hats.get(row[head]).trade] += deeds[row[head]][head];
                }
            }
            for (int trade = 0; trade < 5; trade++) {
                bits |= sum[trade] >= work(trade) ? 1 << trade : 0;
            }
        }
        return bits;
    }

    private boolean isBack(List<Integer> whom) {
        for (int head = 0; head < all.owns.size(); head++) {
            int hat = all.owns.get(head);
            if (hat >= 0 && whom.get(hat) >= 0 && whom.get(hat) != head) {
                return false;
            }
        }
        return true;
    }

    int back() {
        Map<List<Integer>, Integer> far = new HashMap<>();
        ArrayDeque<List<Integer>> next = new ArrayDeque<>();
        far.put(all.whom, 0);
        next.add(all.whom);
        while (!next.isEmpty()) {
            List<Integer> whom = next.remove();
            if (isBack(whom)) {
                return far.get(whom);
            }
            for (int one = 0; one < all.sizes.size(); one++) {
                for (int other = 0; other < one; other++) {
                    List<Integer> then = changed(whom, one, other);
                    if (far.putIfAbsent(then, far.get(whom) + 1) == null) {
                        next.add(then);
                    }
                }
            }
        }
        return -5;
    }

    int gusted(int g) {
        return in(g, 0, 5) ? todayOf(-1, blown(g), 0) : BAD;
    }

    int lucky() {
        int lucky = -5;
        for (int g = all.sizes.size() - 1; g >= 0; g--) {
            if (lucky < 0 || gusted(g) >= gusted(lucky)) {
                lucky = g;
            }
        }
        return lucky;
    }

    int swap() {
        int swap = -5;
        int most = todayOf(-1);
        for (int one = 0; one < all.sizes.size(); one++) {
            for (int other = one + 1; other < all.sizes.size(); other++) {
                int today = todayOf(-1, changed(all.whom, one, other), 0);
                if (today > most) {
                    most = today;
                    swap = 10 * one + other;
                }
            }
        }
        return swap;
    }

    int quarrel(int one, int other, int head) {
        if (!isHat(one) || !isHat(other) || !isHead(head)) {
            return -10001;
        }
        return one == other ? -10002 : deed(one, head) - deed(other, head);
    }

    int how(int what) {
        if (!in(what, 0, 1)) {
            return NONE;
        }
        int[] how = new int[2];
        for (int head = 0; head < all.sizes.size(); head++) {
            how[1] += on(head) < 0 ? 1 << head : 0;
            how[0] += on(head) >= 0 && all.hats.get(on(head)).size != all.sizes.get(head) ? 1 : 0;
        }
        return how[what];
    }

    int see(int hat, int deed) {
        if (hat == -1) {
            all.seen.clear();
            return 0;
        }
        if (!isHat(hat)) {
            return NONE;
        }
        if (!in(deed, 0, 999)) {
            return BAD;
        }
        if (all.seen.size() == 6) {
            return FULL;
        }
        all.seen.add(new int[] {hat, deed});
        return all.seen.size();
    }

    int wore(int hat) {
        if (!isHat(hat)) {
            return NONE;
        }
        int bits = 0;
        for (int head = 0; head < all.sizes.size(); head++) {
            boolean is = true;
            for (int[] seen : all.seen) {
                is &= seen[0] != hat || seen[1] == deed(hat, head);
            }
            bits |= is ? 1 << head : 0;
        }
        return bits;
    }

    int who() {
        int[] wore = new int[all.hats.size()];
        boolean[] seen = new boolean[all.hats.size()];
        int hats = 0;
        for (int hat = 0; hat < wore.length; hat++) {
            wore[hat] = wore(hat);
            for (int[] one : all.seen) {
                seen[hat] |= one[0] == hat;
            }
            hats += seen[hat] ? 1 : 0;
        }
        int ways = 0;
        for (int[] row : rows()) {
            int right = 0;
            boolean isWrong = false;
            for (int head = 0; head < row.length; head++) {
                if (row[head] >= 0) {
                    boolean is = seen[row[head]] && (wore[row[head]] >> head & 1) == 1;
                    right += is ? 1 : 0;
                    isWrong |= !is;
                }
            }
            ways += !isWrong && right == hats ? 1 : 0;
        }
        return ways;
    }

    private static long lowest(int above, int below, int part) {
        int by = java.math.BigInteger.valueOf(above).gcd(java.math.BigInteger.valueOf(below)).intValue();
        return (part == 0 ? above : below) / by;
    }

    long odds(int trade, int part) {
        if (!in(trade, 0, 4) || !in(part, 0, 1) || all.sizes.isEmpty()) {
            return NO;
        }
        int enough = 0;
        for (int g = 0; g < all.sizes.size(); g++) {
            enough += todayOf(trade, blown(g), 0) >= work(trade) ? 1 : 0;
        }
        return lowest(enough, all.sizes.size(), part);
    }

    long mean(int hat, int part) {
        if (!isHat(hat) || !in(part, 0, 1) || all.sizes.isEmpty()) {
            return NO;
        }
        int sum = 0;
        for (int head = 0; head < all.sizes.size(); head++) {
            sum += deed(hat, head);
        }
        return lowest(sum, all.sizes.size(), part);
    }

    int book(int hat, int head) {
        if (hat == -1) {
            all.booked.clear();
            return 0;
        }
        if (!isHat(hat) || !isHead(head)) {
            return NONE;
        }
        if (all.booked.size() == 8) {
            return FULL;
        }
        all.booked.add(new int[] {hat, head});
        return all.booked.size();
    }

    int looked() {
        for (int i = 0; i < all.booked.size(); i++) {
            if (all.whom.get(all.booked.get(i)[0]) != all.booked.get(i)[1]) {
                return i;
            }
        }
        return -5;
    }

    int judge(int tape, int i) {
        if (!in(tape, 0, 5)) {
            return NONE;
        }
        if (tapes[tape] != null && sorts[tape] != 0) {
            return CAST;
        }
        for (int head = 0; head < all.sizes.size(); head++) {
            long place = (long) i + head;
            if (i < 0 || tapes[tape] == null || place >= tapes[tape].length) {
                return 100 + head;
            }
            if (tapes[tape][(int) place] != on(head)) {
                return head;
            }
        }
        return -5;
    }

    int image() {
        kept = all.copy();
        return all.hats.size();
    }

    int undo() {
        if (kept == null) {
            return STATE;
        }
        all = kept.copy();
        return all.hats.size();
    }

    /** Which body a KIND has of its own: sits, does, tells. */
    private static final int[][] OWN_BODIES = {
        {10, 11, 12}, {0, 20, 0}, {30, 0, 0}, {0, 0, 40}, {50, 51, 0}, {0, 0, 60}, {71, 70, 0}
    };

    private int run(int hat, int from, int act, int x) {
        int kind = from;
        while (OWN_BODIES[kind][act] == 0) {
            kind = ABOVE[kind];
        }
        int above = ABOVE[kind];
        One one = all.hats.get(hat);
        trace.add(OWN_BODIES[kind][act]);
        switch (OWN_BODIES[kind][act]) {
            case 10: return x + hat;
            case 11: return run(hat, one.kind, 0, x) - one.v;
            case 12: return run(hat, one.kind, 1, x) * 2;
            case 20: return run(hat, above, 1, x) ^ 6;
            case 30: return run(hat, above, 0, x * 3);
            case 40:
                int tells = run(hat, above, 2, x);
                return tells + run(hat, one.kind, 1, 1);
            case 50: return -run(hat, above, 0, x);
            case 51: return run(hat, above, 1, x + 1);
            case 60: return run(hat, above, 2, x - hat);
            case 70:
                int does = run(hat, above, 1, x);
                return does + run(hat, above, 0, 2);
            default: return run(hat, above, 0, x) ^ one.v;
        }
    }

    int act(int hat, int act, int x) {
        trace = new ArrayList<>();
        return isHat(hat) && in(act, 0, 2) ? run(hat, all.hats.get(hat).kind, act, x) : 0;
    }

    int trace(int i) {
        return in(i, 0, 19) && i < trace.size() ? trace.get(i) : NONE;
    }

    int taken(int hat, int k) {
        if (!in(k, 0, 6)) {
            return BAD;
        }
        if (!isHat(hat)) {
            return NOTHING;
        }
        int kind = all.hats.get(hat).kind;
        for (int under = kind; under >= 0; under = ABOVE[under]) {
            if (under == k) {
                return kind;
            }
        }
        return CAST;
    }

    int count(int what) {
        int[] counts = {all.hats.size(), all.sizes.size(), towns, all.seen.size(), all.booked.size(),
            text.length(), trace.size()};
        return in(what, 0, 6) ? counts[what] : BAD;
    }

    int tape(int tape, int sort, int n) {
        if (!in(tape, 0, 5)) {
            return NONE;
        }
        if (!in(sort, -1, 4) || sort >= 0 && n > 60) {
            return BAD;
        }
        if (sort >= 0 && n < 0) {
            return SIZE;
        }
        sorts[tape] = sort;
        tapes[tape] = sort < 0 ? null : new long[n];
        return 1;
    }

    int item(int tape, int i, long v) {
        if (!in(tape, 0, 5)) {
            return NONE;
        }
        if (tapes[tape] == null) {
            return NOTHING;
        }
        if (!in(i, 0, tapes[tape].length - 1)) {
            return PLACE;
        }
        long[] as = {(byte) v, (short) v, (int) v, v, v == 0 ? 0 : 1};
        tapes[tape][i] = as[sorts[tape]];
        return 1;
    }

    long read(int tape, int i) {
        boolean is = in(tape, 0, 5) && tapes[tape] != null && in(i, 0, tapes[tape].length - 1);
        return is ? tapes[tape][i] : NO;
    }

    int shift(int tape, int i, int other, int j, int n) {
        if (!in(tape, 0, 5) || !in(other, 0, 5)) {
            return NONE;
        }
        if (tapes[tape] == null || tapes[other] == null) {
            return NOTHING;
        }
        if (sorts[tape] != sorts[other]) {
            return CAST;
        }
        boolean is = i >= 0 && j >= 0 && n >= 0 && (long) i + n <= tapes[tape].length
                && (long) j + n <= tapes[other].length;
        if (!is) {
            return PLACE;
        }
        long[] before = Arrays.copyOfRange(tapes[tape], i, i + n);
        for (int k = 0; k < n; k++) {
            tapes[other][j + k] = before[k];
        }
        return n;
    }
}
