/** The sentences on GIFTS, WISHES, RINGS, THE RUSH, FEES and what can be asked that name a boundary case, one by one. */
public final class GiftBoundariesTest extends Checks {
    private static final int MIN = Integer.MIN_VALUE;
    private static final int MAX = Integer.MAX_VALUE;

    public static void main(String[] args) {
        giveNoSuchOnes();
        giveTheFirstOfThese();
        giveNowOrLess();
        giveWhatWasGivenIn();
        giveAsNineWait();
        giveAsTwoHundredCame();
        worthForGood();
        wishesOfOtherNumbers();
        wishesOfGiftsThatWait();
        wishesInPlaceOfTheOneBefore();
        meetsByTown();
        meetsByWeek();
        meetsBySize();
        rushWishesOfOtherNumbers();
        ringsOfTwoToNine();
        ringsOfTheSmallest();
        ringsOfAtMostSoMany();
        ringsMostFirst();
        ringsThenTheGreatestSum();
        ringsThenTheFirst();
        ringsNoneBehindAll();
        bankNoSuchOne();
        takeNoSuchOnes();
        takePointsLess();
        rushWorthNotAbovePoints();
        rushTheGreatestWorth();
        rushTheLeastLuck();
        rushEachOnce();
        rushKeepsOrLosesTheWish();
        feesOtherNumbers();
        feesRoundedUp();
        feesLimitBelow();
        feesHoldOrBreak();
        partyNoSuchOnes();
        partyOfEach();
        ofNoSuch();
        ofEach();
        ownerOfOthers();
        countOthers();
        finish("all boundaries of gifts, wishes and fees hold");
    }

    private static void giveNoSuchOnes() {
        about("10: NONE: no such ones, a dead one");
        WeekBank x = bank();
        int[] owners = {-1, -2, 4, 10, MIN, MAX};
        for (int owner : owners) {
            is("give(" + owner + ", 0, 5)", x.give(owner, 0, 5), -1);
            is("nobody's WEEK by " + owner, x.give(owner, 0, 0), -1);
        }
        int[] flats = {-1, 2, 6, MIN, MAX};
        for (int flat : flats) {
            is("give(0, " + flat + ", 5)", x.give(0, flat, 5), -1);
        }
        int[] weeks = {-1, 53, 58, MIN, MAX};
        for (int week : weeks) {
            is("give(0, 0, " + week + ")", x.give(0, 0, week), -1);
        }
        x.dies(1, 2, true);
        is("a dead one, what it had", x.give(1, 0, 11), -1);
        is("a dead one, another's", x.give(1, 0, 5), -1);
        is("none came", x.count(4), 0);
        is("the first", x.give(0, 0, 5), 0);
    }

    private static void giveTheFirstOfThese() {
        about("10: else the first of these");
        WeekBank x = bank();
        x.own(0, 0, 0);
        is("-2 before -3", x.give(1, 0, 0), -2);
        is("-3", x.give(0, 0, 0), -3);
        for (int week = 1; week <= 9; week++) {
            x.give(0, 0, week);
        }
        x.shut(1, 0, 5);
        is("-2 before -4 and -6", x.give(1, 1, 5), -2);
        is("-2 before -5 and -6", x.give(1, 0, 5), -2);
        is("-3 before -6", x.give(0, 0, 0), -3);
        is("-4 before -6", x.give(0, 1, 5), -4);
        is("-5 before -6", x.give(0, 0, 5), -5);
        is("-6", x.give(0, 1, 6), -6);
        is("NONE before all", x.give(0, 2, 5), -1);
        x.weeks(5);
        is("-3 before -4", x.give(0, 1, 5), -3);
        is("-3 before -5", x.give(0, 0, 5), -3);
        x.bank(6);
        x.take(0, 6);
        x.shut(0, 7, 7);
        is("it is PAST", x.of(6, 5), 5);
        is("-4 before -5", x.give(0, 0, 7), -4);
        x.own(0, 7, 1);
        is("-2 before -4 and -5", x.give(0, 0, 7), -2);
        is("-4 for the one that has it now", x.give(1, 0, 7), -4);
        is("nine came", x.count(4), 9);
    }

    private static void giveNowOrLess() {
        about("10: -3 its WEEK is NOW or less");
        WeekBank x = bank();
        x.own(0, 0, 0);
        x.own(0, 52, 3);
        is("WEEK 0 as a YEAR begins", x.give(0, 0, 0), -3);
        is("WEEK 1", x.give(0, 0, 1), 0);
        x.weeks(5);
        is("less", x.give(0, 0, 4), -3);
        is("NOW", x.give(0, 0, 5), -3);
        is("the next", x.give(0, 0, 6), 1);
        x.weeks(46);
        is("the last WEEK", x.give(3, 0, 52), 2);
        x.year();
        x.weeks(52);
        is("the last WEEK, NOW", x.give(3, 0, 52), -3);
    }

    private static void giveWhatWasGivenIn() {
        about("10: -5 it was given in this YEAR (and isn't BACK)");
        WeekBank x = bank();
        x.give(0, 0, 1);
        is("WAITS", x.give(0, 0, 1), -5);
        x.bank(0);
        is("BANKED", x.give(0, 0, 1), -5);
        x.take(0, 0);
        is("TAKEN", x.give(0, 0, 1), -5);
        x.give(0, 0, 2);
        x.give(0, 0, 3);
        x.wish(1, 0, 3, 3, 1);
        x.wish(2, 0, 2, 2, 1);
        x.rings(2);
        is("SWAPPED", x.give(0, 0, 2), -5);
        is("SWAPPED", x.give(0, 0, 3), -5);
        x.give(0, 0, 4);
        x.dies(0, 1, true);
        is("the heir: TAKEN", x.give(1, 0, 1), -5);
        is("the heir: SWAPPED", x.give(1, 0, 2), -5);
        is("the heir: BACK", x.give(1, 0, 4), 4);
        is("the heir: WAITS again", x.give(1, 0, 4), -5);
        is("the other FLAT's", x.give(1, 1, 1), 5);
        x.year();
        is("the next YEAR", x.give(1, 0, 1), 6);
        is("the next YEAR", x.give(1, 0, 2), 7);
    }

    private static void giveAsNineWait() {
        about("10: -6 nine WAIT");
        WeekBank x = bank();
        for (int week = 1; week <= 9; week++) {
            is("give", x.give(0, 0, week), week - 1);
            is("count(5)", x.count(5), week);
        }
        is("a tenth", x.give(0, 1, 1), -6);
        is("a tenth of another", x.give(1, 0, 11), -6);
        is("nine came", x.count(4), 9);
        x.bank(8);
        is("one is BANKED", x.give(0, 1, 1), 9);
        is("nine again", x.give(0, 1, 2), -6);
        x.wish(0, 0, 2, 2, 1);
        x.wish(1, 0, 1, 1, 1);
        x.rings(2);
        is("two are SWAPPED", x.give(0, 1, 2), 10);
        is("the second", x.give(0, 1, 3), 11);
        is("nine again", x.give(0, 1, 4), -6);
        x.shut(0, 3, 3);
        is("one is BACK", x.give(0, 1, 4), 12);
        is("nine again", x.give(0, 1, 5), -6);
        x.weeks(4);
        is("some are PAST", x.give(0, 1, 5), 13);
        x.year();
        is("all are PAST", x.count(5), 0);
    }

    private static void giveAsTwoHundredCame() {
        about("10: -6 200 came");
        WeekBank x = new WeekBank();
        x.flat(0, 1);
        x.owner(1);
        for (int week = 1; week <= 9; week++) {
            x.own(0, week, 0);
        }
        for (int came = 0; came < 199; came++) {
            if (came > 0 && came % 9 == 0) {
                x.year();
            }
            is("give", x.give(0, 0, 1 + came % 9), came);
        }
        is("199 came", x.count(4), 199);
        noSuch(x, 199, 0);
        x.year();
        is("the 200th", x.give(0, 0, 1), 199);
        is("its WEEK", x.of(199, 2), 1);
        is("one more", x.give(0, 0, 2), -6);
        is("-5 before it", x.give(0, 0, 1), -5);
        x.bank(199);
        x.shut(0, 1, 1);
        is("the last is BACK", x.of(199, 5), 4);
        is("still 200 came", x.give(0, 0, 2), -6);
        x.year();
        is("in the next YEAR, too", x.give(0, 0, 1), -6);
        is("200 came", x.count(4), 200);
        noSuch(x, 200, 0);
        is("wish of a 201st", x.wish(200, 0, 0, 0, 1), false);
        is("bank of a 201st", x.bank(200), -1);
        is("take of a 201st", x.take(0, 200), -1);
    }

    private static void worthForGood() {
        about("2: it has the WORTH that it has then, for good");
        WeekBank x = bank();
        rules(x, "season 5 5 10; early 5 3; early 2 1;");
        x.give(0, 0, 5);
        x.give(0, 1, 5);
        is("WORTH", x.of(0, 4), 13);
        x.weeks(1);
        rules(x, "season 5 5 99;");
        is("WORTH then", x.of(0, 4), 13);
        is("worth of the WEEK", x.worth(0, 5), 99);
        is("bank", x.bank(0), 13);
        x.dies(0, 1, true);
        rules(x, "season 5 5 90; early 5 3; early 4 9;");
        is("given in anew, four ahead", x.give(1, 1, 5), 2);
        is("its own WORTH", x.of(2, 4), 99);
        is("the one before", x.of(1, 4), 13);
    }

    private static void wishesOfOtherNumbers() {
        about("11: false: other numbers (from above to)");
        WeekBank x = bank();
        x.give(0, 0, 5);
        int[] towns = {-2, 4, 5, MIN, MAX};
        for (int town : towns) {
            is("town " + town, x.wish(0, town, 0, 52, 1), false);
        }
        int[] weeks = {-1, 53, MIN, MAX};
        for (int week : weeks) {
            is("from " + week, x.wish(0, 0, week, 52, 1), false);
            is("to " + week, x.wish(0, 0, 0, week, 1), false);
            is("from and to " + week, x.wish(0, 0, week, week, 1), false);
        }
        is("from above to", x.wish(0, 0, 6, 5, 1), false);
        is("from above to", x.wish(0, 0, 52, 0, 1), false);
        int[] sizes = {0, -1, 5, MIN, MAX};
        for (int size : sizes) {
            is("size " + size, x.wish(0, 0, 0, 52, size), false);
        }
        for (int town = -1; town <= 3; town++) {
            for (int size = 1; size <= 4; size++) {
                is("town " + town + ", size " + size, x.wish(0, town, 0, 52, size), true);
            }
        }
        is("from is to", x.wish(0, -1, 0, 0, 1), true);
        is("from is to", x.wish(0, -1, 52, 52, 1), true);
    }

    private static void wishesOfGiftsThatWait() {
        about("11: false: no such one");
        WeekBank x = bank();
        for (int week = 1; week <= 6; week++) {
            x.give(0, 0, week);
        }
        int[] gifts = {-1, 6, 200, MIN, MAX};
        for (int gift : gifts) {
            is("wish of " + gift, x.wish(gift, -1, 0, 52, 1), false);
        }
        x.bank(0);
        x.bank(1);
        x.take(0, 1);
        x.wish(2, 0, 4, 4, 1);
        x.wish(3, 0, 3, 3, 1);
        x.rings(2);
        x.shut(0, 5, 5);
        for (int gift = 0; gift <= 4; gift++) {
            is("wish of one that is " + x.of(gift, 5), x.wish(gift, -1, 0, 52, 1), false);
        }
        is("of one that WAITS", x.wish(5, -1, 0, 52, 1), true);
        x.weeks(6);
        is("of one that is PAST", x.wish(5, -1, 0, 52, 1), false);
    }

    /** Whether a gift of week 5 of the small flat and one of week 11 of the large one are swapped by these two wishes. */
    private static int swap(int[] first, int[] second) {
        WeekBank x = bank();
        x.give(0, 0, 5);
        x.give(1, 1, 11);
        x.wish(0, first[0], first[1], first[2], first[3]);
        x.wish(1, second[0], second[1], second[2], second[3]);
        return x.rings(2);
    }

    private static void wishesInPlaceOfTheOneBefore() {
        about("11: in place of the one before");
        WeekBank x = bank();
        x.give(0, 0, 5);
        x.give(1, 1, 11);
        x.wish(0, -1, 0, 52, 1);
        x.wish(1, -1, 0, 52, 1);
        x.wish(0, 0, 0, 52, 1);
        is("the one before is gone", x.rings(2), 0);
        is("a refused one", x.wish(0, -1, 5, 4, 1), false);
        is("changes nothing", x.rings(2), 0);
        x.wish(0, 1, 11, 11, 3);
        is("a refused one", x.wish(0, 0, 0, 52, 0), false);
        is("changes nothing", x.rings(2), 2);
        x = bank();
        x.give(0, 0, 5);
        x.give(1, 1, 11);
        x.wish(0, 1, 11, 11, 1);
        x.wish(1, 3, 0, 52, 1);
        is("0 wishes for 1 alone", x.rings(2), 0);
        x.wish(0, 3, 0, 52, 1);
        x.wish(1, 0, 5, 5, 1);
        is("1 wishes for 0 alone", x.rings(2), 0);
    }

    private static void meetsByTown() {
        about("2: a TOWN (or any)");
        int[] all = {-1, 0, 52, 1};
        is("any", swap(all, all), 2);
        is("just that", swap(new int[] {1, 0, 52, 1}, new int[] {0, 0, 52, 1}), 2);
        is("another", swap(new int[] {2, 0, 52, 1}, all), 0);
        is("its own TOWN", swap(new int[] {0, 0, 52, 1}, all), 0);
        is("another", swap(all, new int[] {1, 0, 52, 1}), 0);
    }

    private static void meetsByWeek() {
        about("2: WEEKS from one to another one");
        int[] all = {-1, 0, 52, 1};
        for (int from = 9; from <= 13; from++) {
            for (int to = from; to <= 13; to++) {
                int due = from <= 11 && to >= 11 ? 2 : 0;
                is("from " + from + " to " + to, swap(new int[] {-1, from, to, 1}, all), due);
            }
        }
    }

    private static void meetsBySize() {
        about("2: a least SIZE");
        int[] all = {-1, 0, 52, 1};
        for (int size = 1; size <= 4; size++) {
            is("least SIZE " + size + " of 3", swap(new int[] {-1, 0, 52, size}, all), size <= 3 ? 2 : 0);
            is("least SIZE " + size + " of 1", swap(all, new int[] {-1, 0, 52, size}), size <= 1 ? 2 : 0);
        }
    }

    private static void rushWishesOfOtherNumbers() {
        about("12: false likewise, a dead one");
        WeekBank x = bank();
        int[] owners = {-1, 4, 10, MIN, MAX};
        for (int owner : owners) {
            is("owner " + owner, x.rushWish(owner, -1, 0, 52, 1), false);
        }
        int[] towns = {-2, 4, MIN, MAX};
        for (int town : towns) {
            is("town " + town, x.rushWish(0, town, 0, 52, 1), false);
        }
        int[] weeks = {-1, 53, MIN, MAX};
        for (int week : weeks) {
            is("from " + week, x.rushWish(0, 0, week, 52, 1), false);
            is("to " + week, x.rushWish(0, 0, 0, week, 1), false);
            is("from and to " + week, x.rushWish(0, 0, week, week, 1), false);
        }
        is("from above to", x.rushWish(0, 0, 6, 5, 1), false);
        int[] sizes = {0, -1, 5, MIN, MAX};
        for (int size : sizes) {
            is("size " + size, x.rushWish(0, 0, 0, 52, size), false);
        }
        is("no WISH by refused ones", x.ownerOf(0, 5), 0);
        for (int town = -1; town <= 3; town++) {
            for (int size = 1; size <= 4; size++) {
                is("town " + town + ", size " + size, x.rushWish(3, town, 0, 52, size), true);
            }
        }
        is("from is to", x.rushWish(0, -1, 52, 52, 1), true);
        x.give(0, 0, 5);
        x.bank(0);
        x.rushWish(0, 0, 5, 5, 1);
        is("a refused one", x.rushWish(0, 0, 6, 5, 1), false);
        is("changes nothing, the latest holds", x.rush(), 1);
        x.dies(0, 1, true);
        is("a dead one", x.rushWish(0, -1, 0, 52, 1), false);
    }

    private static void ringsOfTwoToNine() {
        about("13: NONE: another n");
        WeekBank x = bank();
        x.give(0, 0, 5);
        x.give(1, 1, 11);
        x.wish(0, -1, 0, 52, 1);
        x.wish(1, -1, 0, 52, 1);
        int[] refused = {1, 0, -1, 10, 11, MIN, MAX};
        for (int n : refused) {
            is("rings(" + n + ")", x.rings(n), -1);
        }
        is("they WAIT on", x.count(5), 2);
        is("rings(2)", x.rings(2), 2);
        for (int n = 2; n <= 9; n++) {
            is("rings(" + n + ") again", x.rings(n), 0);
        }
    }

    private static void ringsOfTheSmallest() {
        about("2: each gets another one of them or none; one that gets one has a WISH, which that one MEETS");
        WeekBank x = bank();
        is("of none", x.rings(2), 0);
        x.give(0, 0, 5);
        x.wish(0, -1, 0, 52, 1);
        is("of one: not itself", x.rings(2), 0);
        x.give(1, 1, 11);
        is("one without a WISH", x.rings(2), 0);
        x.wish(1, 3, 0, 52, 1);
        is("one whose WISH isn't met", x.rings(9), 0);
        x.wish(1, 0, 5, 5, 1);
        is("both", x.rings(2), 2);
        is("0 got 1", x.of(0, 6), 1);
        is("1 got 0", x.of(1, 6), 0);
        x.give(0, 0, 6);
        x.wish(2, -1, 0, 52, 1);
        x.give(0, 0, 7);
        x.bank(3);
        is("a BANKED one is none of them", x.rings(9), 0);
        is("of one OWNER", x.give(0, 0, 8), 4);
        x.wish(4, 0, 6, 6, 1);
        is("both", x.rings(9), 2);
        is("party", x.party(0, 6), 0);
        is("party", x.party(0, 8), 0);
    }

    /** So many gifts, each of which wishes for the next one alone, the last for the first. */
    private static WeekBank circle(int size) {
        WeekBank x = bank();
        for (int i = 0; i < size; i++) {
            x.give(0, 0, i + 1);
        }
        for (int i = 0; i < size; i++) {
            int next = (i + 1) % size + 1;
            x.wish(i, 0, next, next, 1);
        }
        return x;
    }

    private static void ringsOfAtMostSoMany() {
        about("2: back at the first in at most so many steps");
        for (int size = 2; size <= 9; size++) {
            for (int n = 2; n <= 9; n++) {
                WeekBank x = circle(size);
                int due = n >= size ? size : 0;
                is("rings(" + n + ") of " + size, x.rings(n), due);
                is("they WAIT on", x.count(5), size - due);
                for (int i = 0; i < size; i++) {
                    is("gift " + i, x.of(i, 6), due > 0 ? (i + 1) % size : -1);
                    is("its state", x.of(i, 5), due > 0 ? 1 : 0);
                }
            }
        }
        WeekBank x = circle(9);
        for (int i = 0; i < 9; i++) {
            int before = (i + 8) % 9 + 1;
            x.wish(i, 0, before, before, 1);
        }
        is("nine the other way round", x.rings(9), 9);
        for (int i = 0; i < 9; i++) {
            is("gift " + i, x.of(i, 6), (i + 8) % 9);
        }
        x = bank();
        for (int i = 0; i < 9; i++) {
            x.give(0, 0, i + 1);
            x.wish(i, -1, 0, 52, 1);
        }
        is("pairs alone: one of nine is left", x.rings(2), 8);
        is("the last WAITS on", x.of(8, 5), 0);
        is("0 got 1", x.of(0, 6), 1);
    }

    private static void ringsMostFirst() {
        about("2: of all ways that in which most get one");
        // A dear pair (31, 32) or a cheap ring of three (31, 1, 2).
        WeekBank x = bank();
        x.give(3, 0, 31);
        x.give(3, 0, 32);
        x.give(0, 0, 1);
        x.give(0, 0, 2);
        x.wish(0, 0, 1, 32, 1);
        x.wish(1, 0, 31, 31, 1);
        x.wish(2, 0, 2, 2, 1);
        x.wish(3, 0, 31, 31, 1);
        is("three", x.rings(3), 3);
        is("the dear one WAITS on", x.of(1, 5), 0);
        is("0 got 2", x.of(0, 6), 2);
    }

    private static void ringsThenTheGreatestSum() {
        about("2: of these that with the greatest sum of WORTH of all that are got");
        WeekBank x = bank();
        x.give(0, 0, 5);
        x.give(1, 0, 11);
        x.give(1, 1, 11);
        x.wish(0, -1, 11, 11, 1);
        x.wish(1, -1, 5, 5, 1);
        x.wish(2, -1, 5, 5, 1);
        is("a pair", x.rings(2), 2);
        is("0 got the dearer one", x.of(0, 6), 2);
        is("the other WAITS on", x.of(1, 5), 0);
        x = bank();
        rules(x, "season 1 1 5; season 2 2 6; season 3 3 5; season 4 4 5;");
        for (int week = 1; week <= 4; week++) {
            x.give(0, 0, week);
        }
        x.wish(0, 0, 4, 4, 1);
        x.wish(1, 0, 3, 3, 1);
        x.wish(2, 0, 2, 4, 1);
        x.wish(3, 0, 1, 3, 1);
        is("both pairs", x.rings(2), 4);
        x = bank();
        rules(x, "season 1 1 5; season 2 2 6;");
        x.give(0, 0, 1);
        x.give(0, 0, 3);
        x.give(0, 0, 2);
        x.wish(0, 0, 3, 3, 1);
        x.wish(1, 0, 1, 2, 1);
        x.wish(2, 0, 3, 3, 1);
        is("one more by one", x.rings(2), 2);
        is("0, the first, WAITS on", x.of(0, 5), 0);
        is("2 got 1", x.of(2, 6), 1);
    }

    private static void ringsThenTheFirst() {
        about("2: of these the first, GIFT by GIFT (by numbers): the lesser one got first");
        WeekBank x = bank();
        for (int i = 0; i < 4; i++) {
            x.give(0, 0, i + 1);
            x.wish(i, -1, 0, 52, 1);
        }
        is("all four", x.rings(9), 4);
        int[] due = {1, 0, 3, 2};
        for (int i = 0; i < 4; i++) {
            is("gift " + i, x.of(i, 6), due[i]);
        }
        x = bank();
        for (int i = 0; i < 5; i++) {
            x.give(0, 0, i + 1);
            x.wish(i, -1, 0, 52, 1);
        }
        is("all five", x.rings(3), 5);
        int[] five = {1, 0, 3, 4, 2};
        for (int i = 0; i < 5; i++) {
            is("gift " + i + " of five", x.of(i, 6), five[i]);
        }
        // The order of numbers, not of WEEKS.
        x = bank();
        x.give(0, 0, 9);
        x.give(0, 0, 8);
        x.give(0, 0, 2);
        x.wish(0, -1, 0, 8, 1);
        x.wish(1, -1, 9, 9, 1);
        x.wish(2, -1, 9, 9, 1);
        is("a pair", x.rings(2), 2);
        is("the lesser number", x.of(0, 6), 1);
        // 0, 2, 3 in a ring or 0, 1, 4.
        x = bank();
        for (int i = 0; i < 5; i++) {
            x.give(0, 0, i + 1);
        }
        x.wish(0, 0, 2, 3, 1);
        x.wish(1, 0, 5, 5, 1);
        x.wish(2, 0, 4, 4, 1);
        x.wish(3, 0, 1, 1, 1);
        x.wish(4, 0, 1, 1, 1);
        is("three of five", x.rings(3), 3);
        is("0 gets the lesser one", x.of(0, 6), 1);
        is("1 gets 4", x.of(1, 6), 4);
    }

    private static void ringsNoneBehindAll() {
        about("2: none behind all");
        WeekBank x = bank();
        x.give(0, 0, 1);
        x.give(0, 0, 2);
        x.give(0, 0, 3);
        x.wish(0, 0, 3, 3, 1);
        x.wish(1, 0, 3, 3, 1);
        x.wish(2, 0, 1, 2, 1);
        is("a pair", x.rings(2), 2);
        is("0 gets one rather than none", x.of(0, 6), 2);
        is("1 WAITS on", x.of(1, 5), 0);
        x = bank();
        for (int i = 0; i < 9; i++) {
            x.give(0, 0, i + 1);
        }
        x.wish(0, 0, 9, 9, 1);
        x.wish(7, 0, 9, 9, 1);
        x.wish(8, 0, 1, 8, 1);
        is("a pair of nine", x.rings(9), 2);
        is("0 gets the last", x.of(0, 6), 8);
        is("the last gets 0", x.of(8, 6), 0);
        is("seven WAIT on", x.count(5), 7);
        noneBehindTheNinth();
        noneBesideALesserOne();
    }

    /** 0, 8, 3 in a ring or 1, 2, 8: that 0 gets even the ninth comes before that it gets none. */
    private static void noneBehindTheNinth() {
        WeekBank x = bank();
        for (int i = 0; i < 9; i++) {
            x.give(0, 0, i + 1);
            x.wish(i, 3, 0, 52, 1);
        }
        x.wish(0, 0, 9, 9, 1);
        x.wish(8, 0, 2, 4, 1);
        x.wish(3, 0, 1, 1, 1);
        x.wish(1, 0, 3, 3, 1);
        x.wish(2, 0, 9, 9, 1);
        is("three of nine", x.rings(3), 3);
        is("0 gets the ninth", x.of(0, 6), 8);
        is("8 gets 3", x.of(8, 6), 3);
        is("1 WAITS on", x.of(1, 5), 0);
    }

    /** 0, 1, 3, 5, 6 in a ring or 0, 1, 4, 3, 2: what 1 gets comes before what 2 gets. */
    private static void noneBesideALesserOne() {
        WeekBank x = bank();
        for (int i = 0; i < 7; i++) {
            x.give(0, 0, i + 1);
        }
        x.wish(0, 0, 2, 2, 1);
        x.wish(1, 0, 4, 5, 1);
        x.wish(2, 0, 1, 1, 1);
        x.wish(3, -1, 3, 6, 1);
        x.wish(4, 0, 4, 4, 1);
        x.wish(5, 0, 7, 7, 1);
        x.wish(6, 0, 1, 1, 1);
        is("five of seven", x.rings(5), 5);
        is("1 gets 3", x.of(1, 6), 3);
        is("3 gets 5", x.of(3, 6), 5);
        is("2 WAITS on", x.of(2, 5), 0);
    }

    private static void bankNoSuchOne() {
        about("14: NONE: no such one");
        WeekBank x = bank();
        is("none came", x.bank(0), -1);
        for (int week = 1; week <= 6; week++) {
            x.give(0, 0, week);
        }
        int[] gifts = {-1, 6, 200, MIN, MAX};
        for (int gift : gifts) {
            is("bank(" + gift + ")", x.bank(gift), -1);
        }
        is("bank(0)", x.bank(0), 10);
        is("BANKED", x.bank(0), -1);
        is("bank(1)", x.bank(1), 20);
        x.take(0, 1);
        is("TAKEN", x.bank(1), -1);
        x.wish(2, 0, 4, 4, 1);
        x.wish(3, 0, 3, 3, 1);
        x.rings(2);
        is("SWAPPED", x.bank(2), -1);
        x.shut(0, 5, 5);
        is("BACK", x.bank(4), -1);
        x.weeks(6);
        is("PAST", x.bank(5), -1);
        is("POINTS", x.ownerOf(0, 0), 10);
        x.year();
        is("of the YEAR before", x.bank(5), -1);
    }

    private static void takeNoSuchOnes() {
        about("15: NONE: no such ones, a dead one");
        WeekBank x = bank();
        is("none came", x.take(0, 0), -1);
        for (int week = 1; week <= 6; week++) {
            x.give(0, 0, week);
        }
        x.bank(0);
        int[] gifts = {-1, 6, 200, MIN, MAX};
        for (int gift : gifts) {
            is("take(0, " + gift + ")", x.take(0, gift), -1);
        }
        int[] owners = {-1, 4, 10, MIN, MAX};
        for (int owner : owners) {
            is("take(" + owner + ", 0)", x.take(owner, 0), -1);
        }
        is("WAITS, though POINTS are less", x.take(1, 1), -1);
        is("WAITS", x.take(0, 1), -1);
        x.bank(1);
        is("its own OWNER", x.take(0, 1), 10);
        is("TAKEN", x.take(0, 1), -1);
        x.wish(2, 0, 4, 4, 1);
        x.wish(3, 0, 3, 3, 1);
        x.rings(2);
        is("SWAPPED", x.take(0, 2), -1);
        x.shut(0, 5, 5);
        is("BACK", x.take(0, 4), -1);
        x.dies(3, 0, true);
        is("a dead one, though POINTS are less", x.take(3, 0), -1);
        x.bank(5);
        x.weeks(6);
        is("PAST", x.take(0, 5), -1);
        is("PAST", x.take(0, 0), -1);
    }

    private static void takePointsLess() {
        about("15: -2: POINTS are less than its WORTH");
        WeekBank x = bank();
        rules(x, "season 1 1 5; season 2 2 6; season 11 11 5;");
        x.give(0, 0, 1);
        x.give(0, 0, 2);
        x.give(1, 0, 11);
        x.give(1, 0, 12);
        for (int gift = 0; gift < 4; gift++) {
            x.bank(gift);
        }
        is("5 for 6", x.take(1, 1), -2);
        is("BANKED on", x.of(1, 5), 2);
        is("POINTS", x.ownerOf(1, 0), 5);
        is("0 for 0", x.take(2, 3), 0);
        is("0 for 5", x.take(2, 0), -2);
        is("5 for 5", x.take(1, 0), 0);
        is("LUCK is as before", x.ownerOf(1, 1), 0);
        is("11 for 5", x.take(0, 2), 6);
        is("who gave it keeps what it has", x.ownerOf(1, 0), 0);
        is("6 for 6", x.take(0, 1), 0);
    }

    private static void rushWorthNotAbovePoints() {
        about("2: whose WORTH isn't above the OWNER's POINTS");
        WeekBank x = bank();
        rules(x, "season 1 1 6; season 11 11 5; season 12 12 1;");
        x.give(0, 0, 1);
        x.give(1, 0, 11);
        x.give(1, 0, 12);
        x.bank(0);
        x.bank(1);
        x.rushWish(1, 0, 1, 1, 1);
        is("6 for 5", x.rush(), 0);
        is("keeps the WISH", x.ownerOf(1, 5), 1);
        x.bank(2);
        is("6 for 6", x.rush(), 1);
        is("TAKEN", x.of(0, 5), 3);
        is("party", x.party(0, 1), 1);
        is("POINTS", x.ownerOf(1, 0), 0);
        is("LUCK", x.ownerOf(1, 1), 6);
        x.rushWish(1, 0, 11, 12, 1);
        is("1 for 0", x.rush(), 0);
    }

    private static void rushTheGreatestWorth() {
        about("2: the one of the greatest WORTH, of like ones the lesser");
        WeekBank x = bank();
        rules(x, "season 1 1 5; season 2 3 6; season 4 4 7; season 5 5 90; season 6 6 80;");
        for (int week = 1; week <= 6; week++) {
            x.give(0, 0, week);
        }
        for (int gift = 0; gift < 5; gift++) {
            x.bank(gift);
        }
        x.rushWish(0, 0, 1, 3, 1);
        is("rush", x.rush(), 1);
        is("the lesser one of 6", x.of(1, 7), 0);
        is("the other one", x.of(2, 5), 2);
        is("one of 5", x.of(0, 5), 2);
        is("one that the WISH doesn't tell of", x.of(3, 5), 2);
        is("one that WAITS", x.of(5, 5), 0);
        x.rushWish(0, 1, 0, 52, 1);
        is("another TOWN", x.rush(), 0);
        x.rushWish(0, 0, 0, 52, 2);
        is("too small a SIZE", x.rush(), 0);
        x.rushWish(0, -1, 0, 52, 1);
        is("any", x.rush(), 1);
        is("the dearest", x.of(4, 7), 0);
    }

    private static void rushTheLeastLuck() {
        about("2: the one of the least LUCK first, of like ones the lesser");
        WeekBank x = bank();
        for (int o = 0; o < 4; o++) {
            x.give(o, 0, 10 * o + 1);
            x.give(o, 1, 10 * o + 1);
            x.bank(2 * o);
            x.bank(2 * o + 1);
        }
        // LUCK of 0 is then 10, of 1 is 0, of 2 is 10.
        x.rushWish(0, 0, 1, 1, 1);
        x.rush();
        x.give(0, 0, 2);
        x.bank(8);
        x.rushWish(2, 0, 2, 2, 1);
        x.rush();
        is("LUCK of 0", x.ownerOf(0, 1), 10);
        is("LUCK of 2", x.ownerOf(2, 1), 10);
        for (int o = 0; o < 3; o++) {
            x.rushWish(o, -1, 0, 12, 1);
        }
        is("gifts 1, 2, 3 for three", x.rush(), 3);
        is("1, without LUCK, the dearest", x.of(3, 7), 1);
        is("then 0, of like ones the lesser, the dearer", x.of(2, 7), 0);
        is("then 2, what is left", x.of(1, 7), 2);
    }

    private static void rushEachOnce() {
        about("2: each OWNER once, in the order as it was when it began");
        WeekBank x = bank();
        x.give(3, 0, 31);
        x.give(3, 0, 32);
        x.give(3, 0, 33);
        x.give(2, 0, 21);
        for (int gift = 0; gift < 4; gift++) {
            x.bank(gift);
        }
        x.rushWish(3, 0, 31, 33, 1);
        is("one, though three are there", x.rush(), 1);
        is("gift 0", x.of(0, 7), 3);
        is("none wishes", x.rush(), 0);
        x.rushWish(3, 0, 30, 39, 1);
        x.rushWish(2, 0, 21, 39, 1);
        is("2 has no LUCK, 3 has 40", x.rush(), 2);
        is("2, of 30 POINTS, gets its own", x.of(3, 7), 2);
        is("3 gets the lesser", x.of(1, 7), 3);
        is("the last one", x.of(2, 5), 2);
        x = new WeekBank();
        x.flat(0, 1);
        for (int o = 0; o < 10; o++) {
            x.owner(1);
            x.own(0, o + 1, o);
            x.give(o, 0, o + 1);
            x.bank(o);
            x.rushWish(o, 0, 0, 52, 1);
        }
        is("ten OWNERS, ten GIFTS for nothing", x.rush(), 10);
        for (int o = 0; o < 10; o++) {
            is("gift " + o, x.of(o, 7), o);
        }
    }

    private static void rushKeepsOrLosesTheWish() {
        about("2: the WISH is gone; who finds none keeps the WISH");
        WeekBank x = bank();
        x.give(0, 0, 1);
        x.bank(0);
        for (int o = 0; o < 4; o++) {
            x.rushWish(o, 0, 0, 52, 1);
        }
        is("rush", x.rush(), 1);
        int[] wishes = {0, 1, 1, 1};
        int[] luck = {10, 0, 0, 0};
        for (int o = 0; o < 4; o++) {
            is("WISH of " + o, x.ownerOf(o, 5), wishes[o]);
            is("LUCK of " + o, x.ownerOf(o, 1), luck[o]);
        }
        is("nothing is left", x.rush(), 0);
        is("take loses no WISH", x.ownerOf(1, 5), 1);
        x.give(1, 0, 11);
        x.bank(1);
        x.take(1, 1);
        is("take loses no WISH", x.ownerOf(1, 5), 1);
    }

    private static void feesOtherNumbers() {
        about("21: NONE: another cost, what");
        WeekBank x = bank();
        int[] costs = {0, -1, 1000000, 1000001, MIN, MAX};
        for (int cost : costs) {
            for (int what = 0; what <= 2; what++) {
                is("fees(" + cost + ", " + what + ")", x.fees(cost, what), -1);
            }
        }
        int[] whats = {-1, 3, 4, MIN, MAX};
        for (int what : whats) {
            is("fees(1, " + what + ")", x.fees(1, what), -1);
        }
        is("the least cost", x.fees(1, 0), 1);
        is("the greatest cost", x.fees(999999, 0), 0);
        is("its rounds", x.fees(999999, 1), 1);
        is("who stays", x.fees(999999, 2), 0);
    }

    private static void feesRoundedUp() {
        about("3: the FEE is the cost by the number of WEEKS that have an OWNER who stays (rounded up)");
        WeekBank x = bank();
        int[] costs = {1, 71, 72, 73, 143, 144, 145, 7199, 7200};
        int[] fees = {1, 1, 1, 2, 2, 2, 3, 100, 100};
        for (int i = 0; i < costs.length; i++) {
            is("fees(" + costs[i] + ", 0)", x.fees(costs[i], 0), fees[i]);
            is("fees(" + costs[i] + ", 1)", x.fees(costs[i], 1), 0);
        }
        x.give(0, 0, 5);
        x.shut(0, 6, 9);
        is("WEEKS given in or SHUT have an OWNER still", x.fees(72, 0), 1);
        x.own(0, 9, -1);
        is("71 WEEKS", x.fees(72, 0), 2);
        x = new WeekBank();
        x.flat(0, 1);
        x.owner(9999);
        for (int week = 0; week <= 52; week++) {
            x.own(0, week, 0);
        }
        is("53 WEEKS", x.fees(529947, 0), 9999);
        is("53 WEEKS, one more", x.fees(529948, 0), 0);
    }

    private static void feesLimitBelow() {
        about("3: all OWNERS whose LIMIT is below it leave");
        WeekBank x = bank();
        is("a FEE of 100, LIMITS from 100 on", x.fees(7200, 2), 4);
        is("a FEE of 101", x.fees(7201, 2), 3);
        is("one round", x.fees(7201, 1), 1);
        is("7201 by 54", x.fees(7201, 0), 134);
        is("10800 by 54", x.fees(10800, 0), 200);
        is("10801 by 54 is above 200, by 36 above 300, by 18 above 400", x.fees(10801, 0), 0);
        is("rounds", x.fees(10801, 1), 4);
        is("who stays", x.fees(10801, 2), 0);
        is("nobody leaves in truth", x.fees(7200, 2), 4);
        is("nor loses WEEKS", x.ownerOf(0, 3), 18);
        x = new WeekBank();
        x.flat(0, 1);
        x.owner(0);
        x.own(0, 0, 0);
        is("a LIMIT of 0", x.fees(1, 0), 0);
        is("its round", x.fees(1, 1), 1);
    }

    private static void feesHoldOrBreak() {
        about("21: 0 the FEE with which it holds (0: it BREAKS), 1 rounds in which somebody left, 2 OWNERS who stay");
        WeekBank x = new WeekBank();
        x.flat(0, 1);
        x.owner(9999);
        for (int what = 0; what <= 2; what++) {
            is("no WEEK has an OWNER: fees(1, " + what + ")", x.fees(1, what), 0);
        }
        x.own(0, 0, 0);
        is("it holds", x.fees(9999, 0), 9999);
        is("no round", x.fees(9999, 1), 0);
        is("one stays", x.fees(9999, 2), 1);
        is("it BREAKS", x.fees(10000, 0), 0);
        is("one round", x.fees(10000, 1), 1);
        is("nobody stays", x.fees(10000, 2), 0);
        x.owner(9999);
        is("such as own a WEEK", x.fees(1, 2), 1);
        x.dies(0, 1, false);
        is("no WEEK has an OWNER", x.fees(1, 0), 0);
        is("no round", x.fees(1, 1), 0);
    }

    private static void partyNoSuchOnes() {
        about("22: NONE: nobody, no such ones");
        WeekBank x = bank();
        int[] flats = {-1, 2, 6, MIN, MAX};
        for (int flat : flats) {
            is("party(" + flat + ", 5)", x.party(flat, 5), -1);
        }
        int[] weeks = {-1, 53, 58, MIN, MAX};
        for (int week : weeks) {
            is("party(0, " + week + ")", x.party(0, week), -1);
        }
        is("nobody", x.party(0, 0), -1);
        is("nobody", x.party(0, 52), -1);
        x.own(0, 0, 3);
        x.own(1, 52, 0);
        is("the first WEEK", x.party(0, 0), 3);
        is("the last WEEK", x.party(1, 52), 0);
    }

    private static void partyOfEach() {
        about("22: -2 the bank; who got it, as it is SWAPPED or TAKEN");
        WeekBank x = bank();
        x.give(0, 0, 1);
        x.give(0, 0, 2);
        x.give(1, 0, 11);
        x.give(0, 0, 3);
        x.give(0, 0, 4);
        x.give(0, 0, 5);
        x.bank(3);
        x.bank(4);
        x.take(0, 4);
        x.wish(1, 0, 11, 11, 1);
        x.wish(2, 0, 2, 2, 1);
        x.rings(2);
        x.shut(0, 5, 5);
        int[] weeks = {1, 2, 11, 3, 4, 5, 6};
        int[] due = {-2, 1, 0, -2, 0, 0, 0};
        for (int i = 0; i < weeks.length; i++) {
            is("party of WEEK " + weeks[i], x.party(0, weeks[i]), due[i]);
        }
        x.weeks(12);
        int[] then = {0, 1, 0, 0, 0, 0, 0};
        for (int i = 0; i < weeks.length; i++) {
            is("party of WEEK " + weeks[i] + " then", x.party(0, weeks[i]), then[i]);
        }
    }

    private static void ofNoSuch() {
        about("23: NoSuchElementException: no such GIFT, what");
        WeekBank x = bank();
        for (int what = 0; what <= 7; what++) {
            noSuch(x, 0, what);
        }
        x.give(0, 0, 5);
        int[] gifts = {-1, 1, 199, 200, MIN, MAX};
        for (int gift : gifts) {
            noSuch(x, gift, 0);
            noSuch(x, gift, 7);
            noSuch(x, gift, 8);
        }
        int[] whats = {-1, 8, 9, MIN, MAX};
        for (int what : whats) {
            noSuch(x, 0, what);
        }
        is("of(0, 0)", ofOrThrows(x, 0, 0), "0");
        is("of(0, 7)", ofOrThrows(x, 0, 7), "-1");
        is("a refused give makes no GIFT", x.give(0, 0, 5), -5);
        noSuch(x, 1, 0);
    }

    private static void ofEach() {
        about("23: 6 the GIFT that it got (SWAPPED; else NONE), 7 who got it (SWAPPED, TAKEN; else NONE)");
        WeekBank x = bank();
        x.year();
        x.give(0, 0, 1);
        x.give(1, 1, 11);
        x.give(2, 0, 21);
        x.give(0, 0, 2);
        x.give(0, 0, 3);
        x.give(0, 0, 4);
        x.wish(1, 0, 21, 21, 1);
        x.wish(2, 1, 11, 11, 1);
        x.rings(2);
        x.bank(3);
        x.bank(4);
        x.take(0, 4);
        x.shut(0, 4, 4);
        int[][] due = {
            {0, 0, 1, 1, 10, 0, -1, -1},
            {1, 1, 11, 1, 25, 1, 2, 2},
            {2, 0, 21, 1, 30, 1, 1, 1},
            {0, 0, 2, 1, 10, 2, -1, -1},
            {0, 0, 3, 1, 10, 3, -1, 0},
            {0, 0, 4, 1, 10, 4, -1, -1},
        };
        for (int gift = 0; gift < due.length; gift++) {
            for (int what = 0; what <= 7; what++) {
                is("of(" + gift + ", " + what + ")", x.of(gift, what), due[gift][what]);
            }
        }
        x.weeks(5);
        int[] past = {0, 0, 1, 1, 10, 5, -1, -1};
        for (int what = 0; what <= 7; what++) {
            is("of(0, " + what + ") then", x.of(0, what), past[what]);
        }
        is("SWAPPED in the YEAR before", x.year() + x.of(1, 6) + x.of(1, 7), 6);
    }

    private static void ownerOfOthers() {
        about("24: NONE for others");
        WeekBank x = bank();
        int[] owners = {-1, 4, 10, MIN, MAX};
        for (int owner : owners) {
            for (int what = 0; what <= 5; what++) {
                is("ownerOf(" + owner + ", " + what + ")", x.ownerOf(owner, what), -1);
            }
        }
        int[] whats = {-1, 6, 7, MIN, MAX};
        for (int what : whats) {
            is("ownerOf(0, " + what + ")", x.ownerOf(0, what), -1);
        }
        x.dies(0, 1, true);
        is("a dead one is told of", x.ownerOf(0, 2), 100);
        is("whether dead", x.ownerOf(0, 4), 1);
        is("whether dead", x.ownerOf(1, 4), 0);
    }

    private static void countOthers() {
        about("25: NONE for others");
        WeekBank x = bank();
        int[] whats = {-1, -2, 10, 11, MIN, MAX};
        for (int what : whats) {
            is("count(" + what + ")", x.count(what), -1);
        }
        about("25: those that WAIT, BANKED ones (of this YEAR both)");
        x.give(0, 0, 1);
        x.give(0, 0, 2);
        x.give(0, 0, 3);
        x.bank(0);
        is("WAIT", x.count(5), 2);
        is("BANKED", x.count(6), 1);
        x.year();
        is("WAIT", x.count(5), 0);
        is("BANKED", x.count(6), 0);
        x.give(0, 0, 1);
        is("WAIT", x.count(5), 1);
        is("GIFTS of all YEARS", x.count(4), 4);
        about("25: 9 all POINTS");
        x.give(3, 0, 31);
        x.bank(4);
        is("10 and 40", x.count(9), 50);
    }
}
