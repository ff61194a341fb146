/** HEADS, HATS, KINDS and DEED in the terms, promises 1 to 9: each sentence that names an edge. */
public final class EdgesHeadsHatsTest {
    private static final int NONE = HatsDecide.NONE, BAD = HatsDecide.BAD;
    private static final int STATE = HatsDecide.STATE, FULL = HatsDecide.FULL;
    private static final int KINDS = 7;

    public static void main(String[] args) {
        newObjectHasNothing();
        headsAre6AsTheyCome();
        sizeOfAHeadIs0To9();
        ownIsNoneAtFirst();
        hatsAre6AsTheyCome();
        whatAHatIsOf();
        aNewHatIsOnNoneAndNotUsed();
        eachHeadHasOneOnAtMost();
        deedOfHatIs0AtLeast();
        deedOfTightIsLessByTwiceHowFarApart();
        deedOfTightIs0AtLeast();
        deedOfWornIsLessByTheFourthCut();
        deedOfWornIs0AtLeast();
        deedOfCrownIsVMoreThan0InItself();
        deedOfStiffIs0IfSizesAreNotAlike();
        deedOfFrayedIs0AtLeast();
        deedOfToldByDayModulo4();
        deedOfToldIsMoreThan0InItself();
        ofWhat();
        atWhat();
        rowIsForToldOnesAlone();
        rowOf4Numbers();
        rowsAreOfEachHatAlone();
        whatComesChangesNoOther();
        putOnNone();
        putWhereItIs();
        putWhereAnotherOneIs();
        putOfNoNumber();
        ownOfNone();
        ownOfNoNumber();
        skillIs0To50();
        Check.end();
    }

    private static void newObjectHasNothing() {
        HatsDecide x = new HatsDecide();
        Check.beyond("at of no HEAD", 0, -1, NONE, n -> x.at(n, 0));
        Check.due("at(0, 0)", x.at(0, 0), NONE);
        Check.beyond("of of no HAT", 0, -1, -10001, n -> x.of(n, 0));
        Check.due("of(0, 0)", x.of(0, 0), -10001);
        for (int what = 0; what <= 6; what++) {
            Check.due("count " + what, x.count(what), 0);
        }
        Check.due("no IMAGE", x.undo(), STATE);
        Check.due("no TRACE", x.trace(0), NONE);
        Check.due("nothing SEEN", x.who(), 1);
        Check.due("no BOOK", x.looked(), -5);
        Check.due("DAY", x.told(0), 0);
        Check.due("MOTH without a TOWN", x.told(1), 0);
        for (int trade = 0; trade < 5; trade++) {
            Check.due("DONE of " + trade, x.told(10 + trade), 0);
            Check.due("WORK of " + trade + " without a TOWN", x.told(20 + trade), 10);
        }
        x.head(9);
        x.hat(0, 9, 0, 50, 0);
        Check.due("DEED without a TOWN", x.of(0, 10), 50);
    }

    private static void headsAre6AsTheyCome() {
        HatsDecide x = new HatsDecide();
        int[] sizes = {7, 0, 9, 3, 3, 5};
        for (int i = 0; i < 6; i++) {
            Check.due("HEAD " + i + " is not there yet", x.at(i, 0), NONE);
            Check.due("HEAD " + i, x.head(sizes[i]), i);
            Check.due("HEADS", x.count(1), i + 1);
        }
        Check.due("the seventh", x.head(1), FULL);
        Check.due("HEADS stay 6", x.count(1), 6);
        Check.due("no HEAD 6", x.at(6, 0), NONE);
        for (int i = 0; i < 6; i++) {
            Check.due("SIZE of HEAD " + i, x.at(i, 0), sizes[i]);
        }
    }

    private static void sizeOfAHeadIs0To9() {
        HatsDecide x = new HatsDecide();
        Check.beyond("head", 0, 9, BAD, x::head);
        Check.due("none came", x.count(1), 0);
        Check.due("SIZE 0", x.head(0), 0);
        Check.due("SIZE 9", x.head(9), 1);
        Check.due("is 0", x.at(0, 0), 0);
        Check.due("is 9", x.at(1, 0), 9);
    }

    private static void ownIsNoneAtFirst() {
        HatsDecide x = Check.heads(1, 2);
        Check.due("without HATS", x.at(0, 2), -5);
        x.hat(0, 0, 0, 0, 0);
        Check.due("with one", x.at(0, 2), -5);
        Check.due("what it was", x.own(1, 0), -5);
    }

    private static void hatsAre6AsTheyCome() {
        HatsDecide x = new HatsDecide();
        for (int i = 0; i < 6; i++) {
            Check.due("HAT " + i + " is not there yet", x.of(i, 0), -10001);
            Check.due("HAT " + i, x.hat(6 - i, i, 9 - i, 50 - i, i % 5), i);
            Check.due("HATS", x.count(0), i + 1);
        }
        Check.due("the seventh", x.hat(0, 0, 0, 0, 0), FULL);
        Check.due("HATS stay 6", x.count(0), 6);
        Check.due("no HAT 6", x.of(6, 0), -10001);
        for (int i = 0; i < 6; i++) {
            int[] is = {6 - i, i, 9 - i, 50 - i, i % 5};
            for (int what = 0; what < 5; what++) {
                Check.due("of(" + i + ", " + what + ")", x.of(i, what), is[what]);
            }
        }
    }

    private static void whatAHatIsOf() {
        HatsDecide x = new HatsDecide();
        Check.beyond("KIND", 0, 6, NONE, n -> x.hat(n, 0, 0, 0, 0));
        Check.beyond("TRADE", 0, 4, NONE, n -> x.hat(0, 0, 0, 0, n));
        Check.beyond("v", 0, 9, BAD, n -> x.hat(0, n, 0, 0, 0));
        Check.beyond("SIZE", 0, 9, BAD, n -> x.hat(0, 0, n, 0, 0));
        Check.beyond("SKILL", 0, 50, BAD, n -> x.hat(0, 0, 0, n, 0));
        Check.due("none came", x.count(0), 0);
        Check.due("the least of all", x.hat(0, 0, 0, 0, 0), 0);
        Check.due("the greatest of all", x.hat(6, 9, 9, 50, 4), 1);
        int[] greatest = {6, 9, 9, 50, 4};
        for (int what = 0; what < 5; what++) {
            Check.due("the least's " + what, x.of(0, what), 0);
            Check.due("the greatest's " + what, x.of(1, what), greatest[what]);
        }
    }

    private static void aNewHatIsOnNoneAndNotUsed() {
        HatsDecide x = Check.heads(0);
        x.hat(0, 0, 0, 5, 0);
        Check.due("on none", x.of(0, 6), -5);
        Check.due("USED", x.of(0, 5), 0);
        x.day();
        Check.due("not USED by a DAY on none", x.of(0, 5), 0);
        x.put(0, 0);
        Check.due("not USED by being put on", x.of(0, 5), 0);
        x.day();
        Check.due("USED by a DAY on a HEAD", x.of(0, 5), 1);
    }

    private static void eachHeadHasOneOnAtMost() {
        HatsDecide x = Check.heads(0, 0);
        x.hat(0, 0, 0, 0, 0);
        x.hat(0, 0, 0, 0, 0);
        x.put(0, 0);
        Check.due("another one", x.put(1, 0), STATE);
        Check.due("the first is still on", x.at(0, 1), 0);
        Check.due("the other one is on none", x.of(1, 6), -5);
        Check.due("the other HEAD is free", x.put(1, 1), -5);
    }

    /** DEED of the one HAT on the one HEAD, both of SIZE 5. */
    private static int deed(int kind, int v, int skill, String town) {
        HatsDecide x = Check.heads(5);
        x.hat(kind, v, 5, skill, 0);
        Check.town(x, town);
        return x.of(0, 10);
    }

    private static void deedOfHatIs0AtLeast() {
        Check.due("FITS less by one", deed(0, 9, 5, "gall 4 a=0"), 1);
        Check.due("FITS just as much", deed(0, 9, 5, "gall 5 a=0"), 0);
        Check.due("FITS too much", deed(0, 9, 5, "gall 6 a=0"), 0);
        Check.due("FITS far too much", deed(0, 9, 5, "gall 99 a=0;gall 99 a=0"), 0);
        Check.due("most FITS and SKILL", deed(0, 9, 50, "suit 99 a=0"), 149);
        Check.due("no SKILL", deed(0, 9, 0, "moth 99"), 0);
    }

    private static void deedOfTightIsLessByTwiceHowFarApart() {
        HatsDecide x = Check.heads(5, 4, 6, 0, 9);
        x.hat(1, 9, 5, 20, 0);
        int[] due = {20, 18, 18, 10, 12};
        for (int head = 0; head < 5; head++) {
            Check.due("on HEAD " + head, x.of(0, 10 + head), due[head]);
        }
        x.hat(1, 9, 0, 50, 0);
        Check.due("farthest apart", x.of(1, 14), 32);
        x.hat(1, 9, 9, 50, 0);
        Check.due("farthest apart the other way", x.of(2, 13), 32);
    }

    private static void deedOfTightIs0AtLeast() {
        HatsDecide x = Check.heads(3);
        for (int skill = 3; skill <= 5; skill++) {
            x.hat(1, 9, 5, skill, 0);
        }
        Check.due("too much", x.of(0, 10), 0);
        Check.due("just as much", x.of(1, 10), 0);
        Check.due("less by one", x.of(2, 10), 1);
    }

    private static void deedOfWornIsLessByTheFourthCut() {
        HatsDecide x = Check.heads(0);
        x.hat(2, 9, 9, 50, 0);
        x.put(0, 0);
        Check.town(x, "moth 1");
        for (int used = 0; used <= 12; used++) {
            Check.due("USED " + used, x.of(0, 10), 50 - used / 4);
            x.day();
        }
        Check.town(x, "moth 0");
        Check.due("MOTH 0", x.of(0, 10), 50);
        // USED 13: the fourth of 91 is 22; 13 times the fourth of 7, or 7 times that of 13, is less.
        Check.town(x, "moth 7");
        Check.due("the fourth of both together", x.of(0, 10), 28);
    }

    private static void deedOfWornIs0AtLeast() {
        HatsDecide x = Check.heads(0);
        x.hat(2, 0, 0, 24, 0);
        x.put(0, 0);
        Check.town(x, "moth 99");
        Check.due("not USED", x.of(0, 10), 24);
        x.day();
        Check.due("just as much", x.of(0, 10), 0);
        x.skill(0, 25);
        Check.due("less by one", x.of(0, 10), 1);
        x.skill(0, 23);
        Check.due("too much", x.of(0, 10), 0);
    }

    private static void deedOfCrownIsVMoreThan0InItself() {
        Check.due("v 0", deed(3, 0, 7, "moth 1"), 7);
        Check.due("v 9", deed(3, 9, 7, "moth 1"), 16);
        Check.due("HAT just 0", deed(3, 9, 7, "gall 7 a=0"), 9);
        Check.due("HAT would be below 0", deed(3, 9, 7, "gall 99 a=0"), 9);
        Check.due("all 0", deed(3, 0, 0, "gall 1 a=0"), 0);
    }

    private static void deedOfStiffIs0IfSizesAreNotAlike() {
        HatsDecide x = Check.heads(5, 4, 6, 0, 9);
        x.hat(4, 9, 5, 50, 0);
        Check.due("alike", x.of(0, 10), 50);
        for (int head = 1; head < 5; head++) {
            Check.due("not alike, on HEAD " + head, x.of(0, 10 + head), 0);
        }
        Check.due("alike, but no SKILL is left", deed(4, 9, 5, "gall 6 a=0"), 0);
    }

    private static void deedOfFrayedIs0AtLeast() {
        Check.due("less by one", deed(5, 9, 10, "moth 1"), 1);
        Check.due("just as much", deed(5, 9, 9, "moth 1"), 0);
        Check.due("too much", deed(5, 9, 8, "moth 1"), 0);
        Check.due("v 0", deed(5, 0, 8, "moth 1"), 8);
        HatsDecide x = Check.heads(0);
        x.hat(5, 9, 0, 30, 0);
        x.put(0, 0);
        Check.town(x, "moth 99");
        Check.due("not USED", x.of(0, 10), 21);
        x.day();
        Check.due("eaten by 24", x.of(0, 10), 0);
        x.skill(0, 34);
        Check.due("eaten by 24, less v", x.of(0, 10), 1);
        x.skill(0, 20);
        Check.due("eaten more than there was", x.of(0, 10), 0);
    }

    private static void deedOfToldByDayModulo4() {
        HatsDecide x = Check.heads(0);
        x.hat(6, 2, 0, 10, 0);
        Check.due("its ROW is 0 at first", x.of(0, 10), 12);
        int[] row = {9, 0, 4, 7};
        for (int part = 0; part < 4; part++) {
            x.row(0, part, row[part]);
        }
        int[] due = {21, 12, 16, 19, 21, 12, 16, 19, 21};
        for (int day = 0; day < due.length; day++) {
            Check.due("DAY " + day, x.of(0, 10), due[day]);
            x.day();
        }
    }

    private static void deedOfToldIsMoreThan0InItself() {
        HatsDecide x = Check.heads(0);
        x.hat(6, 2, 9, 10, 0);
        x.row(0, 0, 5);
        Check.town(x, "gall 11 a=0");
        Check.due("HAT would be below 0", x.of(0, 10), 7);
    }

    private static void ofWhat() {
        HatsDecide x = Check.heads(0, 0);
        x.hat(0, 0, 0, 8, 0);
        Check.beyond("of(0, ..)", 0, 6, -10001, n -> x.of(0, n));
        for (int what = 7; what < 10; what++) {
            Check.due("what " + what, x.of(0, what), -10001);
        }
        Check.due("the first HEAD", x.of(0, 10), 8);
        Check.due("the last HEAD", x.of(0, 11), 8);
        Check.due("no such HEAD", x.of(0, 12), -10001);
        Check.due("HEAD 5 is not there", x.of(0, 15), -10001);
        Check.beyond("of(.., 0)", 0, 0, -10001, n -> x.of(n, 0));
        Check.beyond("of(.., 10)", 0, 0, -10001, n -> x.of(n, 10));
        HatsDecide none = new HatsDecide();
        none.hat(0, 0, 0, 8, 0);
        Check.due("no HEADS", none.of(0, 10), -10001);
        Check.due("on none of no HEADS", none.of(0, 6), -5);
    }

    private static void atWhat() {
        HatsDecide x = Check.heads(4, 5);
        x.hat(0, 0, 0, 8, 0);
        Check.beyond("at(0, ..)", 0, 2, NONE, n -> x.at(0, n));
        Check.beyond("at(.., 0)", 0, 1, NONE, n -> x.at(n, 0));
        Check.due("has nothing on", x.at(0, 1), -5);
        x.put(0, 1);
        Check.due("has HAT 0 on", x.at(1, 1), 0);
        x.own(1, 0);
        Check.due("OWNS HAT 0", x.at(1, 2), 0);
        x.own(1, -1);
        Check.due("OWNS none", x.at(1, 2), -5);
    }

    private static void rowIsForToldOnesAlone() {
        for (int kind = 0; kind < KINDS; kind++) {
            HatsDecide x = new HatsDecide();
            x.hat(kind, 0, 0, 0, 0);
            Check.due("row of KIND " + kind, x.row(0, 0, 1), kind == 6 ? 0 : STATE);
        }
    }

    private static void rowOf4Numbers() {
        HatsDecide x = new HatsDecide();
        x.hat(6, 0, 0, 0, 0);
        Check.beyond("HAT", 0, 0, NONE, n -> x.row(n, 0, 1));
        Check.beyond("part", 0, 3, NONE, n -> x.row(0, n, 1));
        Check.beyond("n", 0, 9, BAD, n -> x.row(0, 0, n));
        for (int part = 0; part < 4; part++) {
            Check.due("0 at first", x.row(0, part, 9), 0);
        }
        for (int part = 0; part < 4; part++) {
            Check.due("what it was", x.row(0, part, 0), 9);
            Check.due("0 again", x.row(0, part, 0), 0);
        }
    }

    private static void rowsAreOfEachHatAlone() {
        HatsDecide x = new HatsDecide();
        for (int hat = 0; hat < 6; hat++) {
            x.hat(6, 0, 0, 0, 0);
            for (int part = 0; part < 4; part++) {
                Check.due("ROW of HAT " + hat + " as it comes", x.row(hat, part, (hat + 3 * part) % 9 + 1), 0);
            }
        }
        for (int hat = 0; hat < 6; hat++) {
            for (int part = 0; part < 4; part++) {
                Check.due("ROW of HAT " + hat + ", " + part, x.row(hat, part, 0), (hat + 3 * part) % 9 + 1);
            }
        }
    }

    private static void whatComesChangesNoOther() {
        HatsDecide x = new HatsDecide();
        for (int i = 0; i < 6; i++) {
            x.head(9 - i);
            x.hat(i, 9 - i, i, 40 + i, i % 5);
            x.put(i, i);
            x.own(i, i);
            x.skill(i, 30 + i);
            x.day();
            for (int was = 0; was <= i; was++) {
                int[] of = {was, 9 - was, was, 30 + was, was % 5, i - was + 1, was};
                for (int what = 0; what < of.length; what++) {
                    Check.due("of(" + was + ", " + what + ") behind HAT " + i, x.of(was, what), of[what]);
                }
                Check.due("SIZE of HEAD " + was + " behind HEAD " + i, x.at(was, 0), 9 - was);
                Check.due("HEAD " + was + " has on", x.at(was, 1), was);
                Check.due("HEAD " + was + " OWNS", x.at(was, 2), was);
            }
        }
    }

    private static void putOnNone() {
        HatsDecide x = Check.heads(0, 0);
        x.hat(0, 0, 0, 0, 0);
        Check.due("from none", x.put(0, -1), -5);
        x.put(0, 1);
        Check.due("from a HEAD", x.put(0, -1), 1);
        Check.due("it is on none", x.of(0, 6), -5);
        Check.due("that HEAD has nothing on", x.at(1, 1), -5);
        HatsDecide none = new HatsDecide();
        none.hat(0, 0, 0, 0, 0);
        Check.due("without HEADS", none.put(0, -1), -5);
        Check.due("on HEAD 0 of none", none.put(0, 0), NONE);
    }

    private static void putWhereItIs() {
        HatsDecide x = Check.heads(0, 0);
        x.hat(0, 0, 0, 0, 0);
        x.put(0, 1);
        Check.due("where it is", x.put(0, 1), 1);
        Check.due("it is still there", x.of(0, 6), 1);
        Check.due("to another", x.put(0, 0), 1);
        Check.due("and on no other one", x.at(1, 1), -5);
        Check.due("but there", x.at(0, 1), 0);
    }

    private static void putWhereAnotherOneIs() {
        HatsDecide x = Check.heads(0, 0);
        x.hat(0, 0, 0, 0, 0);
        x.hat(0, 0, 0, 0, 0);
        x.put(0, 0);
        x.put(1, 1);
        Check.due("from a HEAD", x.put(0, 1), STATE);
        Check.due("0 stays", x.of(0, 6), 0);
        Check.due("1 stays", x.of(1, 6), 1);
        x.put(1, -1);
        Check.due("once it is bare", x.put(0, 1), 0);
        Check.due("from none", x.put(1, 1), STATE);
    }

    private static void putOfNoNumber() {
        HatsDecide x = Check.heads(0, 0);
        x.hat(0, 0, 0, 0, 0);
        Check.beyond("HAT", 0, 0, NONE, n -> x.put(n, 0));
        Check.beyond("HAT on none", 0, 0, NONE, n -> x.put(n, -1));
        Check.beyond("HEAD", -1, 1, NONE, n -> x.put(0, n));
    }

    private static void ownOfNone() {
        HatsDecide x = Check.heads(0, 0);
        Check.due("none, without HATS", x.own(0, -1), -5);
        x.hat(0, 0, 0, 0, 0);
        Check.due("HAT 0", x.own(0, 0), -5);
        Check.due("HAT 0 again", x.own(0, 0), 0);
        Check.due("none", x.own(0, -1), 0);
        Check.due("none again", x.own(0, -1), -5);
        Check.due("by the other HEAD too", x.own(1, 0) + x.own(0, 0), -10);
    }

    private static void ownOfNoNumber() {
        HatsDecide x = Check.heads(0, 0);
        Check.due("HAT 0 of none", x.own(0, 0), NONE);
        x.hat(0, 0, 0, 0, 0);
        Check.beyond("HEAD", 0, 1, NONE, n -> x.own(n, 0));
        Check.beyond("HEAD, none", 0, 1, NONE, n -> x.own(n, -1));
        Check.beyond("HAT", -1, 0, NONE, n -> x.own(0, n));
    }

    private static void skillIs0To50() {
        HatsDecide x = Check.heads(0);
        x.hat(0, 0, 0, 25, 0);
        Check.beyond("n", 0, 50, BAD, n -> x.skill(0, n));
        Check.beyond("HAT", 0, 0, NONE, n -> x.skill(n, 1));
        Check.due("as it was", x.of(0, 3), 25);
        Check.due("50", x.skill(0, 50), 25);
        Check.due("0", x.skill(0, 0), 50);
        Check.due("is 0", x.of(0, 3), 0);
    }
}
