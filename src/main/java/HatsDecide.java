import java.util.Arrays;

/** Heads and hats, towns, days and gusts, and what is asked of them: ../shared/DOC.md. */
public final class HatsDecide {
    public static final int NONE = -1, BAD = -2, STATE = -3, FULL = -4;
    public static final long NO = Long.MIN_VALUE;

    private static final int NOTHING = -11, CAST = -12, PLACE = -13, SIZE = -14;
    /** The answer where what is asked for is nobody, nothing or never. */
    private static final int NOT_ANY = -5;
    /** NONE and BAD of the calls whose answers may well be -1 or -2. */
    private static final int FAR_NONE = -10001, FAR_BAD = -10002;

    /** How many HEADS, HATS, TOWNS, TAPES and SEEN there can be, of each. */
    private static final int MOST = 6;
    private static final int MOST_BOOKED = 8, MOST_ITEMS = 60, MOST_KEPT = 20;
    private static final int TEXT_BYTES = 100;
    private static final int KINDS = 7, TRADES = 5, ROW_PARTS = 4, SORTS = 5;
    private static final int MOST_SKILL = 50, MOST_USED = 9999, MOST_DAY = 9999;
    private static final int MOST_DONE = 999999, MOST_SEEN_DEED = 999, MOST_DAYS_ON = 30;
    /** Inside, what a HEAD has on, or who has a HAT on, if that is nothing or nobody. */
    private static final int EMPTY = -1;
    private static final int ALL_TRADES = -1;
    /** How many sets of HATS, or of HEADS, there are. */
    private static final int SETS = 1 << MOST;

    private final Scene now = new Scene();
    private final Scene kept = new Scene();
    private boolean isKept = false;

    private final byte[] text = new byte[TEXT_BYTES];
    private int textBytes = 0;
    private final Town[] towns = new Town[MOST];
    private final Town noTown = new Town();
    private int townCount = 0;

    private final Trace ran = new Trace();
    private final Tape[] tapes = new Tape[MOST];

    // Rows that one call fills and uses, made once: all calls share one room.
    private final int[] letters = new int[Town.LETTERS.length()];
    private final int[] deeds = new int[MOST * MOST];
    private final int[] most = new int[(MOST + 1) * SETS];
    private final int[] ways = new int[SETS];
    private final int[] perHead = new int[MOST];

    public HatsDecide() {
        for (int i = 0; i < MOST; i++) {
            towns[i] = new Town();
            tapes[i] = new Tape();
        }
    }

    // ---- heads, hats, towns

    public int head(int size) {
        if (!isDigit(size)) {
            return BAD;
        }
        if (now.heads >= MOST) {
            return FULL;
        }
        int number = now.heads;
        now.headSize[number] = size;
        now.own[number] = EMPTY;
        now.worn[number] = EMPTY;
        now.heads++;
        return number;
    }

    public int hat(int kind, int v, int size, int skill, int trade) {
        if (!within(kind, 0, KINDS - 1) || !isTrade(trade)) {
            return NONE;
        }
        if (!isDigit(v) || !isDigit(size) || !within(skill, 0, MOST_SKILL)) {
            return BAD;
        }
        if (now.hats >= MOST) {
            return FULL;
        }
        int number = now.hats;
        now.hat[number] = newHat(kind, number, v, size, trade);
        now.skill[number] = skill;
        now.used[number] = 0;
        for (int part = 0; part < ROW_PARTS; part++) {
            now.rows[number * ROW_PARTS + part] = 0;
        }
        now.hats++;
        return number;
    }

    private Hat newHat(int kind, int number, int v, int size, int trade) {
        switch (kind) {
            case 1: return new Tight(kind, number, v, size, trade, ran);
            case 2: return new Worn(kind, number, v, size, trade, ran);
            case 3: return new Crown(kind, number, v, size, trade, ran);
            case 4: return new Stiff(kind, number, v, size, trade, ran);
            case 5: return new Frayed(kind, number, v, size, trade, ran);
            case 6: return new Told(kind, number, v, size, trade, ran);
            default: return new Hat(kind, number, v, size, trade, ran);
        }
    }

    public int of(int hat, int what) {
        if (!now.isHat(hat)) {
            return FAR_NONE;
        }
        Hat one = now.hat[hat];
        switch (what) {
            case 0: return one.kind;
            case 1: return one.v;
            case 2: return one.size;
            case 3: return now.skill[hat];
            case 4: return one.trade;
            case 5: return now.used[hat];
            case 6: return orNotAny(now.wearer(hat));
            default: return what >= 10 && now.isHead(what - 10) ? deedOn(hat, what - 10, 0) : FAR_NONE;
        }
    }

    public int at(int head, int what) {
        if (!now.isHead(head)) {
            return NONE;
        }
        switch (what) {
            case 0: return now.headSize[head];
            case 1: return orNotAny(now.worn[head]);
            case 2: return orNotAny(now.own[head]);
            default: return NONE;
        }
    }

    public int row(int hat, int part, int n) {
        if (!now.isHat(hat) || !within(part, 0, ROW_PARTS - 1)) {
            return NONE;
        }
        if (!isDigit(n)) {
            return BAD;
        }
        if (!(now.hat[hat] instanceof Told)) {
            return STATE;
        }
        int place = hat * ROW_PARTS + part;
        int was = now.rows[place];
        now.rows[place] = n;
        return was;
    }

    public int put(int hat, int head) {
        if (!now.isHat(hat) || !isHeadOrEmpty(head)) {
            return NONE;
        }
        if (head != EMPTY && now.worn[head] != EMPTY && now.worn[head] != hat) {
            return STATE;
        }
        int was = now.wearer(hat);
        if (was != EMPTY) {
            now.worn[was] = EMPTY;
        }
        if (head != EMPTY) {
            now.worn[head] = hat;
        }
        return orNotAny(was);
    }

    public int own(int head, int hat) {
        if (!now.isHead(head) || !(hat == EMPTY || now.isHat(hat))) {
            return NONE;
        }
        int was = now.own[head];
        now.own[head] = hat;
        return orNotAny(was);
    }

    public int skill(int hat, int n) {
        if (!now.isHat(hat)) {
            return NONE;
        }
        if (!within(n, 0, MOST_SKILL)) {
            return BAD;
        }
        int was = now.skill[hat];
        now.skill[hat] = n;
        return was;
    }

    public int feed(int sign) {
        if (!within(sign, 0, 127)) {
            return BAD;
        }
        if (textBytes >= TEXT_BYTES) {
            return FULL;
        }
        text[textBytes] = (byte) sign;
        textBytes++;
        return textBytes;
    }

    public int town() {
        if (townCount >= MOST) {
            return FULL;
        }
        // A TEXT with a FAULT may spoil this one: no TOWN bears its number yet.
        int fault = towns[townCount].parse(text, textBytes);
        textBytes = 0;
        if (fault != Town.SOUND) {
            return -10 - fault;
        }
        now.town = townCount;
        townCount++;
        return now.town;
    }

    public int told(int what) {
        if (what == 0) {
            return now.day;
        }
        if (what == 1) {
            return holding().moth();
        }
        if (within(what, 10, 10 + TRADES - 1)) {
            return now.done[what - 10];
        }
        if (within(what, 20, 20 + TRADES - 1)) {
            return holding().work(what - 20);
        }
        return NONE;
    }

    // ---- days, gusts

    public int day() {
        if (now.day >= MOST_DAY) {
            return STATE;
        }
        int all = 0;
        for (int trade = 0; trade < TRADES; trade++) {
            int more = total(trade, 0, 0);
            all += more;
            now.done[trade] = Math.min(MOST_DONE, now.done[trade] + more);
        }
        for (int h = 0; h < now.heads; h++) {
            int hat = now.worn[h];
            if (now.isHat(hat)) {
                now.used[hat] = Math.min(MOST_USED, now.used[hat] + 1);
            }
        }
        now.day++;
        return all;
    }

    public int gust(int g) {
        if (!isGust(g)) {
            return BAD;
        }
        System.arraycopy(now.worn, 0, perHead, 0, MOST);
        int went = 0;
        for (int h = 0; h < now.heads; h++) {
            now.worn[(h + g) % now.heads] = perHead[h];
            if (perHead[h] != EMPTY) {
                went++;
            }
        }
        return went;
    }

    public int change(int one, int other) {
        if (!now.isHead(one) || !now.isHead(other)) {
            return NONE;
        }
        if (one == other) {
            return BAD;
        }
        int had = now.worn[one];
        now.worn[one] = now.worn[other];
        now.worn[other] = had;
        return 1;
    }

    // ---- what is done

    public int today(int trade) {
        return trade == ALL_TRADES || isTrade(trade) ? total(trade, 0, 0) : NONE;
    }

    public int enough() {
        int bits = 0;
        for (int trade = 0; trade < TRADES; trade++) {
            if (isEnough(trade, 0, 0)) {
                bits |= 1 << trade;
            }
        }
        return bits;
    }

    public int best(int hat) {
        if (!now.isHat(hat)) {
            return NONE;
        }
        int best = NOT_ANY;
        int bestDeed = -1;
        for (int h = 0; h < now.heads; h++) {
            int deed = deedOn(hat, h, 0);
            if (deed > bestDeed) {
                bestDeed = deed;
                best = h;
            }
        }
        return best;
    }

    public int on(int trade, int n) {
        if (!isTrade(trade)) {
            return NONE;
        }
        if (!within(n, 0, MOST_DAYS_ON)) {
            return BAD;
        }
        int sum = 0;
        for (int ahead = 0; ahead < n; ahead++) {
            sum += total(trade, 0, ahead);
        }
        return sum;
    }

    public int lasts(int trade) {
        if (!isTrade(trade)) {
            return NONE;
        }
        for (int ahead = 0; ahead <= MOST_DAYS_ON; ahead++) {
            if (!isEnough(trade, 0, ahead)) {
                return ahead;
            }
        }
        return NOT_ANY;
    }

    // ---- ways, changes

    public int by(int k) {
        if (!within(k, -1, MOST - 1)) {
            return NONE;
        }
        noteDeeds();
        weighWays((1 << now.hats) - 1);
        return k == -1 ? most[0] : orNotAny(wornByBestWay(k));
    }

    public int can() {
        noteDeeds();
        int bits = 0;
        for (int trade = 0; trade < TRADES; trade++) {
            weighWays(hatsOf(trade));
            if (most[0] >= holding().work(trade)) {
                bits |= 1 << trade;
            }
        }
        return bits;
    }

    public int back() {
        for (int h = 0; h < MOST; h++) {
            perHead[h] = h;
        }
        // HEADS that hats must pass between are of one group; CHANGES set a group of n right in n - 1.
        int changes = 0;
        for (int h = 0; h < now.heads; h++) {
            int owned = now.own[h];
            int wearer = now.isHat(owned) ? now.wearer(owned) : EMPTY;
            if (wearer == EMPTY) {
                continue;
            }
            if (isOwnedBelow(h, owned)) {
                return NOT_ANY;
            }
            if (joinGroups(perHead[h], perHead[wearer])) {
                changes++;
            }
        }
        return changes;
    }

    public int gusted(int g) {
        return isGust(g) ? total(ALL_TRADES, g, 0) : BAD;
    }

    public int lucky() {
        int lucky = NOT_ANY;
        int luckyTotal = -1;
        for (int g = 0; g < now.heads; g++) {
            int total = total(ALL_TRADES, g, 0);
            if (total > luckyTotal) {
                luckyTotal = total;
                lucky = g;
            }
        }
        return lucky;
    }

    public int swap() {
        noteDeeds();
        int swap = NOT_ANY;
        int mostMore = 0;
        for (int one = 0; one < now.heads; one++) {
            for (int other = one + 1; other < now.heads; other++) {
                int more = noted(now.worn[one], other) + noted(now.worn[other], one)
                        - noted(now.worn[one], one) - noted(now.worn[other], other);
                if (more > mostMore) {
                    mostMore = more;
                    swap = 10 * one + other;
                }
            }
        }
        return swap;
    }

    public int quarrel(int one, int other, int head) {
        if (!now.isHat(one) || !now.isHat(other) || !now.isHead(head)) {
            return FAR_NONE;
        }
        if (one == other) {
            return FAR_BAD;
        }
        return deedOn(one, head, 0) - deedOn(other, head, 0);
    }

    public int how(int what) {
        if (!within(what, 0, 1)) {
            return NONE;
        }
        int pinched = 0;
        int bare = 0;
        for (int h = 0; h < now.heads; h++) {
            int hat = now.worn[h];
            if (!now.isHat(hat)) {
                bare |= 1 << h;
            } else if (now.hat[hat].size != now.headSize[h]) {
                pinched++;
            }
        }
        return what == 0 ? pinched : bare;
    }

    // ---- seen, odds, books

    public int see(int hat, int deed) {
        if (hat == -1) {
            now.seen = 0;
            return 0;
        }
        if (!now.isHat(hat)) {
            return NONE;
        }
        if (!within(deed, 0, MOST_SEEN_DEED)) {
            return BAD;
        }
        if (now.seen >= MOST) {
            return FULL;
        }
        now.seenHat[now.seen] = hat;
        now.seenDeed[now.seen] = deed;
        now.seen++;
        return now.seen;
    }

    public int wore(int hat) {
        return now.isHat(hat) ? wearers(hat) : NONE;
    }

    public int who() {
        // ways[set]: in how many ways the HATS so far are on just the HEADS of the set.
        Arrays.fill(ways, 0);
        ways[0] = 1;
        for (int hat = 0; hat < now.hats; hat++) {
            if (isSeen(hat)) {
                addHatToWays(wearers(hat));
            }
        }
        int sum = 0;
        for (int set = 0; set < SETS; set++) {
            sum += ways[set];
        }
        return sum;
    }

    public long odds(int trade, int part) {
        if (!isTrade(trade)) {
            return NO;
        }
        int enough = 0;
        for (int g = 0; g < now.heads; g++) {
            if (isEnough(trade, g, 0)) {
                enough++;
            }
        }
        return perHeads(enough, part);
    }

    public long mean(int hat, int part) {
        if (!now.isHat(hat)) {
            return NO;
        }
        int sum = 0;
        for (int h = 0; h < now.heads; h++) {
            sum += deedOn(hat, h, 0);
        }
        return perHeads(sum, part);
    }

    public int book(int hat, int head) {
        if (hat == -1) {
            now.booked = 0;
            return 0;
        }
        if (!now.isHat(hat) || !now.isHead(head)) {
            return NONE;
        }
        if (now.booked >= MOST_BOOKED) {
            return FULL;
        }
        now.bookHat[now.booked] = hat;
        now.bookHead[now.booked] = head;
        now.booked++;
        return now.booked;
    }

    public int looked() {
        for (int i = 0; i < now.booked; i++) {
            if (now.wearer(now.bookHat[i]) != now.bookHead[i]) {
                return i;
            }
        }
        return NOT_ANY;
    }

    // ---- judging, the image, acts, tapes

    public int judge(int tape, int i) {
        if (!isTape(tape)) {
            return NONE;
        }
        Tape row = tapes[tape];
        if (row.sort != Tape.BYTES && row.sort != Tape.EMPTY_SORT) {
            return CAST;
        }
        for (int h = 0; h < now.heads; h++) {
            if (!row.spans(i, h + 1)) {
                return 100 + h;
            }
            if (row.items[i + h] != now.worn[h]) {
                return h;
            }
        }
        return NOT_ANY;
    }

    public int image() {
        kept.become(now);
        isKept = true;
        return now.hats;
    }

    public int undo() {
        if (!isKept) {
            return STATE;
        }
        now.become(kept);
        return now.hats;
    }

    public int act(int hat, int act, int x) {
        ran.clear();
        if (!now.isHat(hat)) {
            return 0;
        }
        switch (act) {
            case 0: return now.hat[hat].sits(x);
            case 1: return now.hat[hat].does(x);
            case 2: return now.hat[hat].tells(x);
            default: return 0;
        }
    }

    public int trace(int i) {
        return within(i, 0, Math.min(ran.bodies, MOST_KEPT) - 1) ? ran.kept[i] : NONE;
    }

    public int taken(int hat, int k) {
        if (!within(k, 0, KINDS - 1)) {
            return BAD;
        }
        if (!now.isHat(hat)) {
            return NOTHING;
        }
        return isOfKind(now.hat[hat], k) ? now.hat[hat].kind : CAST;
    }

    public int count(int what) {
        switch (what) {
            case 0: return now.hats;
            case 1: return now.heads;
            case 2: return townCount;
            case 3: return now.seen;
            case 4: return now.booked;
            case 5: return textBytes;
            case 6: return ran.bodies;
            default: return BAD;
        }
    }

    public int tape(int tape, int sort, int n) {
        if (!isTape(tape)) {
            return NONE;
        }
        if (sort == Tape.EMPTY_SORT) {
            tapes[tape].begin(sort, 0);
            return 1;
        }
        if (!within(sort, 0, SORTS - 1) || n > MOST_ITEMS) {
            return BAD;
        }
        if (n < 0) {
            return SIZE;
        }
        tapes[tape].begin(sort, n);
        return 1;
    }

    public int item(int tape, int i, long v) {
        if (!isTape(tape)) {
            return NONE;
        }
        Tape row = tapes[tape];
        if (row.sort == Tape.EMPTY_SORT) {
            return NOTHING;
        }
        if (!row.spans(i, 1)) {
            return PLACE;
        }
        row.items[i] = row.asItem(v);
        return 1;
    }

    public long read(int tape, int i) {
        return isTape(tape) && tapes[tape].spans(i, 1) ? tapes[tape].items[i] : NO;
    }

    public int shift(int tape, int i, int other, int j, int n) {
        if (!isTape(tape) || !isTape(other)) {
            return NONE;
        }
        Tape from = tapes[tape];
        Tape to = tapes[other];
        if (from.sort == Tape.EMPTY_SORT || to.sort == Tape.EMPTY_SORT) {
            return NOTHING;
        }
        if (from.sort != to.sort) {
            return CAST;
        }
        if (!from.spans(i, n) || !to.spans(j, n)) {
            return PLACE;
        }
        System.arraycopy(from.items, i, to.items, j, n);
        return n;
    }

    // ---- what numbers may be

    private static boolean within(int n, int least, int greatest) {
        return n >= least && n <= greatest;
    }

    private static boolean isDigit(int n) {
        return within(n, 0, 9);
    }

    private static boolean isTrade(int trade) {
        return within(trade, 0, TRADES - 1);
    }

    private static boolean isGust(int g) {
        return within(g, 0, 5);
    }

    private static boolean isTape(int tape) {
        return within(tape, 0, MOST - 1);
    }

    private boolean isHeadOrEmpty(int head) {
        return head == EMPTY || now.isHead(head);
    }

    private static int orNotAny(int number) {
        return number == EMPTY ? NOT_ANY : number;
    }

    private static boolean isOfKind(Hat hat, int kind) {
        switch (kind) {
            case 1: return hat instanceof Tight;
            case 2: return hat instanceof Worn;
            case 3: return hat instanceof Crown;
            case 4: return hat instanceof Stiff;
            case 5: return hat instanceof Frayed;
            case 6: return hat instanceof Told;
            default: return true;
        }
    }

    // ---- deeds

    private Town holding() {
        return within(now.town, 0, townCount - 1) ? towns[now.town] : noTown;
    }

    /** DEED of a HAT on a HEAD, when it has been worn so many DAYS more; 0 where there is none. */
    private int deedOn(int hat, int head, int ahead) {
        if (!now.isHat(hat) || !now.isHead(head)) {
            return 0;
        }
        Hat one = now.hat[hat];
        Town town = holding();
        int used = now.used[hat] + ahead;
        int day = now.day + ahead;
        letters[0] = hat;
        letters[1] = head;
        letters[2] = one.kind;
        letters[3] = one.trade;
        letters[4] = used % 10;
        letters[5] = day % 7;
        int apart = Math.abs(one.size - now.headSize[head]);
        int eaten = town.moth() * used / 4;
        int told = now.rows[hat * ROW_PARTS + day % ROW_PARTS];
        return one.deed(now.skill[hat] + town.fits(letters), apart, eaten, told);
    }

    /** TODAY of a TRADE, or of ALL_TRADES, behind a GUST of g and in so many DAYS. */
    private int total(int trade, int g, int ahead) {
        int sum = 0;
        for (int h = 0; h < now.heads; h++) {
            int hat = now.worn[h];
            if (now.isHat(hat) && (trade == ALL_TRADES || now.hat[hat].trade == trade)) {
                sum += deedOn(hat, (h + g) % now.heads, ahead);
            }
        }
        return sum;
    }

    private boolean isEnough(int trade, int g, int ahead) {
        return total(trade, g, ahead) >= holding().work(trade);
    }

    private void noteDeeds() {
        for (int h = 0; h < now.heads; h++) {
            for (int hat = 0; hat < now.hats; hat++) {
                deeds[h * MOST + hat] = deedOn(hat, h, 0);
            }
        }
    }

    private int noted(int hat, int head) {
        return now.isHat(hat) && now.isHead(head) ? deeds[head * MOST + hat] : 0;
    }

    // ---- ways

    private int hatsOf(int trade) {
        int set = 0;
        for (int hat = 0; hat < now.hats; hat++) {
            if (now.hat[hat].trade == trade) {
                set |= 1 << hat;
            }
        }
        return set;
    }

    /**
     * Fills most: at h * SETS + set, what HEADS h and on can do at most while other HEADS have
     * the HATS of the set on (all of them allowed ones); -1 if then the HATS allowed can't be on
     * as many HEADS as they must.
     */
    private void weighWays(int allowed) {
        int must = Math.min(now.heads, Integer.bitCount(allowed));
        for (int set = 0; set < SETS; set++) {
            most[now.heads * SETS + set] = Integer.bitCount(set) == must ? 0 : -1;
        }
        for (int h = now.heads - 1; h >= 0; h--) {
            for (int set = 0; set < SETS; set++) {
                if ((set & ~allowed) == 0) {
                    most[h * SETS + set] = mostFrom(h, set, allowed);
                }
            }
        }
    }

    private int mostFrom(int h, int set, int allowed) {
        int best = mostWith(h, set, EMPTY);
        for (int hat = 0; hat < now.hats; hat++) {
            if ((allowed & ~set & (1 << hat)) != 0) {
                best = Math.max(best, mostWith(h, set, hat));
            }
        }
        return best;
    }

    /** As most of HEAD h and on tells, if HEAD h has this HAT, or nothing, on. */
    private int mostWith(int h, int set, int hat) {
        if (hat == EMPTY) {
            return most[(h + 1) * SETS + set];
        }
        int rest = most[(h + 1) * SETS + (set | (1 << hat))];
        return rest < 0 ? -1 : rest + noted(hat, h);
    }

    private int wornByBestWay(int head) {
        if (!now.isHead(head)) {
            return EMPTY;
        }
        int set = 0;
        int worn = EMPTY;
        for (int h = 0; h <= head; h++) {
            worn = firstOfBest(h, set);
            if (worn != EMPTY) {
                set |= 1 << worn;
            }
        }
        return worn;
    }

    private int firstOfBest(int h, int set) {
        int best = most[h * SETS + set];
        if (mostWith(h, set, EMPTY) == best) {
            return EMPTY;
        }
        for (int hat = 0; hat < now.hats; hat++) {
            if ((set & (1 << hat)) == 0 && mostWith(h, set, hat) == best) {
                return hat;
            }
        }
        return EMPTY;
    }

    // ---- who gets back what, who can have worn what

    private boolean isOwnedBelow(int head, int hat) {
        for (int h = 0; h < head; h++) {
            if (now.own[h] == hat) {
                return true;
            }
        }
        return false;
    }

    /** Makes two groups of HEADS one; false if they are one already. */
    private boolean joinGroups(int one, int other) {
        for (int h = 0; h < MOST; h++) {
            if (perHead[h] == other) {
                perHead[h] = one;
            }
        }
        return one != other;
    }

    private boolean isSeen(int hat) {
        for (int i = 0; i < now.seen; i++) {
            if (now.seenHat[i] == hat) {
                return true;
            }
        }
        return false;
    }

    private boolean isAsSeen(int hat, int deed) {
        for (int i = 0; i < now.seen; i++) {
            if (now.seenHat[i] == hat && now.seenDeed[i] != deed) {
                return false;
            }
        }
        return true;
    }

    private int wearers(int hat) {
        int bits = 0;
        for (int h = 0; h < now.heads; h++) {
            if (isAsSeen(hat, deedOn(hat, h, 0))) {
                bits |= 1 << h;
            }
        }
        return bits;
    }

    private void addHatToWays(int wearers) {
        // From the greatest set on, as what a set becomes stands in lesser ones, still as it was.
        for (int set = SETS - 1; set >= 0; set--) {
            int sum = 0;
            for (int h = 0; h < MOST; h++) {
                if ((set & wearers & (1 << h)) != 0) {
                    sum += ways[set ^ (1 << h)];
                }
            }
            ways[set] = sum;
        }
    }

    /** A part of n by how many HEADS there are, in lowest terms. */
    private long perHeads(int n, int part) {
        if (!within(part, 0, 1)) {
            return NO;
        }
        for (int by = now.heads; by > 0; by--) {
            if (n % by == 0 && now.heads % by == 0) {
                return (part == 0 ? n : now.heads) / by;
            }
        }
        return NO;
    }

    /** All that THE IMAGE keeps. */
    private static final class Scene {
        int heads = 0;
        final int[] headSize = new int[MOST];
        final int[] own = new int[MOST];
        /** What each HEAD has on: the one place that tells what is on whom. */
        final int[] worn = new int[MOST];
        int hats = 0;
        final Hat[] hat = new Hat[MOST];
        final int[] skill = new int[MOST];
        final int[] used = new int[MOST];
        final int[] rows = new int[MOST * ROW_PARTS];
        int day = 0;
        final int[] done = new int[TRADES];
        int seen = 0;
        final int[] seenHat = new int[MOST];
        final int[] seenDeed = new int[MOST];
        int booked = 0;
        final int[] bookHat = new int[MOST_BOOKED];
        final int[] bookHead = new int[MOST_BOOKED];
        int town = EMPTY;

        boolean isHead(int number) {
            return number >= 0 && number < heads;
        }

        boolean isHat(int number) {
            return number >= 0 && number < hats;
        }

        int wearer(int number) {
            for (int h = 0; h < heads; h++) {
                if (worn[h] == number) {
                    return h;
                }
            }
            return EMPTY;
        }

        void become(Scene other) {
            heads = other.heads;
            hats = other.hats;
            day = other.day;
            seen = other.seen;
            booked = other.booked;
            town = other.town;
            copy(other.headSize, headSize);
            copy(other.own, own);
            copy(other.worn, worn);
            copy(other.skill, skill);
            copy(other.used, used);
            copy(other.rows, rows);
            copy(other.done, done);
            copy(other.seenHat, seenHat);
            copy(other.seenDeed, seenDeed);
            copy(other.bookHat, bookHat);
            copy(other.bookHead, bookHead);
            for (int i = 0; i < MOST; i++) {
                // A HAT itself never changes, so both may hold it.
                hat[i] = other.hat[i];
            }
        }

        private static void copy(int[] from, int[] to) {
            System.arraycopy(from, 0, to, 0, Math.min(from.length, to.length));
        }
    }

    /** What never changes of a HAT, how its KIND does its DEED, and the bodies of its ACTS. */
    private static class Hat {
        final int kind;
        final int number;
        final int v;
        final int size;
        final int trade;
        final Trace ran;

        Hat(int kind, int number, int v, int size, int trade, Trace ran) {
            this.kind = kind;
            this.number = number;
            this.v = v;
            this.size = size;
            this.trade = trade;
            this.ran = ran;
        }

        /** DEED by SKILL and FITS, how far both SIZES are apart, what moths ate, and its ROW now. */
        int deed(int skillAndFits, int apart, int eaten, int told) {
            return Math.max(0, skillAndFits);
        }

        int sits(int x) {
            ran.note(10);
            return x + number;
        }

        int does(int x) {
            ran.note(11);
            return sits(x) - v;
        }

        int tells(int x) {
            ran.note(12);
            return does(x) * 2;
        }
    }

    private static class Tight extends Hat {
        Tight(int kind, int number, int v, int size, int trade, Trace ran) {
            super(kind, number, v, size, trade, ran);
        }

        int deed(int skillAndFits, int apart, int eaten, int told) {
            return Math.max(0, super.deed(skillAndFits, apart, eaten, told) - 2 * apart);
        }

        int does(int x) {
            ran.note(20);
            return super.does(x) ^ 6;
        }
    }

    private static class Worn extends Hat {
        Worn(int kind, int number, int v, int size, int trade, Trace ran) {
            super(kind, number, v, size, trade, ran);
        }

        int deed(int skillAndFits, int apart, int eaten, int told) {
            return Math.max(0, super.deed(skillAndFits, apart, eaten, told) - eaten);
        }

        int sits(int x) {
            ran.note(30);
            return super.sits(x * 3);
        }
    }

    private static class Crown extends Hat {
        Crown(int kind, int number, int v, int size, int trade, Trace ran) {
            super(kind, number, v, size, trade, ran);
        }

        int deed(int skillAndFits, int apart, int eaten, int told) {
            return super.deed(skillAndFits, apart, eaten, told) + v;
        }

        int tells(int x) {
            ran.note(40);
            return super.tells(x) + does(1);
        }
    }

    private static final class Stiff extends Tight {
        Stiff(int kind, int number, int v, int size, int trade, Trace ran) {
            super(kind, number, v, size, trade, ran);
        }

        int deed(int skillAndFits, int apart, int eaten, int told) {
            return apart == 0 ? super.deed(skillAndFits, apart, eaten, told) : 0;
        }

        int sits(int x) {
            ran.note(50);
            return -super.sits(x);
        }

        int does(int x) {
            ran.note(51);
            return super.does(x + 1);
        }
    }

    private static final class Frayed extends Worn {
        Frayed(int kind, int number, int v, int size, int trade, Trace ran) {
            super(kind, number, v, size, trade, ran);
        }

        int deed(int skillAndFits, int apart, int eaten, int told) {
            return Math.max(0, super.deed(skillAndFits, apart, eaten, told) - v);
        }

        int tells(int x) {
            ran.note(60);
            return super.tells(x - number);
        }
    }

    private static final class Told extends Crown {
        Told(int kind, int number, int v, int size, int trade, Trace ran) {
            super(kind, number, v, size, trade, ran);
        }

        int deed(int skillAndFits, int apart, int eaten, int told) {
            return super.deed(skillAndFits, apart, eaten, told) + told;
        }

        int does(int x) {
            ran.note(70);
            return super.does(x) + super.sits(2);
        }

        int sits(int x) {
            ran.note(71);
            return super.sits(x) ^ v;
        }
    }

    /** The numbers of the bodies that ran in the latest act(). */
    private static final class Trace {
        final int[] kept = new int[MOST_KEPT];
        int bodies = 0;

        void clear() {
            bodies = 0;
        }

        void note(int body) {
            if (bodies < MOST_KEPT) {
                kept[bodies] = body;
            }
            bodies++;
        }
    }

    /** The CLAUSES of a TOWN, each E as a row of codes: what it joins ahead of what joins it. */
    private static final class Town {
        static final int SOUND = -1;
        /** The letters of a TEST, as they stand in the row of their numbers that fits() takes. */
        static final String LETTERS = "aektud";
        private static final String SIGNS = "<=>";
        private static final String DIGITS = "0123456789";
        private static final String WORDS = "suitgallmothwork";
        private static final String FIRST_LETTERS = "sgmw";
        private static final byte[] NO_BYTES = {};
        private static final int SUIT = 0, GALL = 1, MOTH = 2, WORK = 3;
        private static final int WORD_LENGTH = 4, MOST_CLAUSES = 10, MOST_WITHIN = 4;
        private static final int USUAL_WORK = 10;
        private static final int NOT = -1, AND = -2, OR = -3;

        private int clauses = 0;
        private final int[] word = new int[MOST_CLAUSES];
        private final int[] first = new int[MOST_CLAUSES];
        private final int[] second = new int[MOST_CLAUSES];
        private final int[] codeFrom = new int[MOST_CLAUSES];
        private final int[] codeTo = new int[MOST_CLAUSES];
        private int codes = 0;
        /** Each code comes from a byte of its own at least. */
        private final int[] code = new int[TEXT_BYTES];

        private byte[] source = NO_BYTES;
        private int bytes = 0;
        private int place = 0;
        private boolean isSound = true;

        // ---- what the CLAUSES say

        int moth() {
            int moth = 0;
            for (int c = 0; c < clauses; c++) {
                if (word[c] == MOTH) {
                    moth = first[c];
                }
            }
            return moth;
        }

        int work(int trade) {
            int work = USUAL_WORK;
            for (int c = 0; c < clauses; c++) {
                if (word[c] == WORK && first[c] == trade) {
                    work = second[c];
                }
            }
            return work;
        }

        int fits(int[] numbers) {
            int sum = 0;
            for (int c = 0; c < clauses; c++) {
                if (word[c] == SUIT && holds(c, numbers)) {
                    sum += first[c];
                } else if (word[c] == GALL && holds(c, numbers)) {
                    sum -= first[c];
                }
            }
            return sum;
        }

        /** Whether E holds; what its parts came to stands in bits, the latest one lowest. */
        private boolean holds(int clause, int[] numbers) {
            int bits = 0;
            for (int i = codeFrom[clause]; i < codeTo[clause]; i++) {
                if (code[i] == NOT) {
                    bits ^= 1;
                } else if (code[i] == AND) {
                    bits = (bits >> 1) & (bits | ~1);
                } else if (code[i] == OR) {
                    bits = (bits >> 1) | (bits & 1);
                } else {
                    bits = (bits << 1) | (isTrue(code[i], numbers) ? 1 : 0);
                }
            }
            return (bits & 1) == 1;
        }

        private static int codeOf(int letter, int sign, int n) {
            return (letter * SIGNS.length() + sign) * 100 + n;
        }

        private static boolean isTrue(int test, int[] numbers) {
            int letter = test / 100 / SIGNS.length();
            int sign = test / 100 % SIGNS.length();
            return letter < numbers.length && Integer.compare(numbers[letter], test % 100) == sign - 1;
        }

        // ---- reading THE TEXT; behind a FAULT nothing goes on

        /** Becomes what so many bytes of THE TEXT say: SOUND, or the FAULT. */
        int parse(byte[] text, int length) {
            source = text;
            bytes = Math.min(length, text.length);
            place = 0;
            isSound = true;
            clauses = 0;
            codes = 0;
            for (int c = 0; c < MOST_CLAUSES; c++) {
                if (c > 0) {
                    expect(';');
                }
                parseClause(c);
                if (!isSound) {
                    return place;
                }
                clauses = c + 1;
                if (place == bytes) {
                    return SOUND;
                }
            }
            return place;
        }

        private void parseClause(int clause) {
            word[clause] = oneOf(FIRST_LETTERS);
            for (int i = 1; i < WORD_LENGTH && isSound; i++) {
                expect(WORDS.charAt(word[clause] * WORD_LENGTH + i));
            }
            expect(' ');
            first[clause] = parseNumber();
            codeFrom[clause] = codes;
            if (word[clause] == SUIT || word[clause] == GALL) {
                expect(' ');
                parseEither(0);
            } else if (word[clause] == WORK) {
                expect(' ');
                second[clause] = parseNumber();
            }
            codeTo[clause] = codes;
        }

        /** E, within so many ( and !: its T, and their F, from the left on. */
        private void parseEither(int depth) {
            for (int i = 0; i < bytes; i++) {
                parsePart(depth);
                for (int j = 0; j < bytes && isNext('&'); j++) {
                    expect('&');
                    parsePart(depth);
                    addCode(AND);
                }
                if (i > 0) {
                    addCode(OR);
                }
                if (!isNext('|')) {
                    return;
                }
                expect('|');
            }
        }

        /** F, within so many ( and !. */
        private void parsePart(int depth) {
            if (depth < MOST_WITHIN && isNext('!')) {
                expect('!');
                parsePart(depth + 1);
                addCode(NOT);
            } else if (depth < MOST_WITHIN && isNext('(')) {
                expect('(');
                parseEither(depth + 1);
                expect(')');
            } else {
                int letter = oneOf(LETTERS);
                int sign = oneOf(SIGNS);
                addCode(codeOf(letter, sign, parseNumber()));
            }
        }

        private int parseNumber() {
            int n = oneOf(DIGITS);
            boolean isLonger = isSound && place < bytes && within(source[place], '0', '9');
            return isLonger ? n * 10 + oneOf(DIGITS) : n;
        }

        private void addCode(int one) {
            if (codes < code.length) {
                code[codes] = one;
                codes++;
            }
        }

        private boolean isNext(char sign) {
            return isSound && place < bytes && source[place] == sign;
        }

        private void expect(char sign) {
            if (isNext(sign)) {
                place++;
            } else {
                isSound = false;
            }
        }

        /** The place among the signs of the one that comes next; 0 behind a FAULT. */
        private int oneOf(String signs) {
            for (int i = 0; i < signs.length(); i++) {
                if (isNext(signs.charAt(i))) {
                    place++;
                    return i;
                }
            }
            isSound = false;
            return 0;
        }
    }

    /** A TAPE: a row of items, each as its sort has it, or nothing. */
    private static final class Tape {
        static final int EMPTY_SORT = -1, BYTES = 0, SHORTS = 1, INTS = 2, BOOLEANS = 4;

        int sort = EMPTY_SORT;
        int length = 0;
        final long[] items = new long[MOST_ITEMS];

        void begin(int newSort, int newLength) {
            sort = newSort;
            length = newLength;
            Arrays.fill(items, 0L);
        }

        /** Whether n items from a place on are all there. */
        boolean spans(int from, int n) {
            return from >= 0 && n >= 0 && from <= length && n <= length - from;
        }

        long asItem(long v) {
            switch (sort) {
                case BYTES: return (byte) v;
                case SHORTS: return (short) v;
                case INTS: return (int) v;
                case BOOLEANS: return v != 0 ? 1 : 0;
                default: return v;
            }
        }
    }
}
