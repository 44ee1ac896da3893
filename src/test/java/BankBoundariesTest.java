/** The sentences on FLATS, OWNERS, WEEKS, YEARS, SHUT FLATS, heirs and FEES that name a boundary case, one by one. */
public final class BankBoundariesTest extends Checks {
    private static final int MIN = Integer.MIN_VALUE;
    private static final int MAX = Integer.MAX_VALUE;

    public static void main(String[] args) {
        aNewObject();
        townsAndSizes();
        sixFlats();
        limits();
        tenOwners();
        anOwnerAtFirst();
        noOwnerAtFirst();
        ownNoSuchOnes();
        ownByADeadOne();
        ownNobodys();
        ownWhatIsGivenIn();
        ownYearByYear();
        shutNoSuchOnes();
        shutNowOrLater();
        shutFromWeekToWeek();
        shutTwice();
        shutNotBelowZero();
        shutGiftByGift();
        shutWhatOthersGot();
        shutBackAndPast();
        shutThisYearAlone();
        weeksOneToFiftyTwo();
        weeksWithoutAWrapAround();
        giftsPastAsWeeksGo();
        yearsFromZeroOn();
        giftsPastAsAYearBegins();
        nothingIsShutInANewYear();
        diesNoSuchOnes();
        diesWithNothing();
        diesFreeOrBound();
        diesWithGifts();
        diesWithLuckAndAWish();
        aDeadOneDoesNothingMore();
        finish("all boundaries of flats, owners, weeks and heirs hold");
    }

    private static void aNewObject() {
        about("1: no FLATS, OWNERS, RULES; YEAR 0, WEEK 0");
        WeekBank x = new WeekBank();
        for (int what = 0; what <= 9; what++) {
            is("count(" + what + ")", x.count(what), 0);
        }
        is("worth(0, 0)", x.worth(0, 0), -1);
        is("party(0, 0)", x.party(0, 0), -1);
        is("own(0, 0, -1)", x.own(0, 0, -1), false);
        is("ownerOf(0, 0)", x.ownerOf(0, 0), -1);
        is("give(0, 0, 1)", x.give(0, 0, 1), -1);
        is("wish(0, ..)", x.wish(0, 0, 0, 0, 1), false);
        is("rushWish(0, ..)", x.rushWish(0, 0, 0, 0, 1), false);
        is("bank(0)", x.bank(0), -1);
        is("take(0, 0)", x.take(0, 0), -1);
        is("shut(0, 0, 0)", x.shut(0, 0, 0), -1);
        is("dies(0, 1, true)", x.dies(0, 1, true), -1);
        is("rings(2)", x.rings(2), 0);
        is("rings(9)", x.rings(9), 0);
        is("rush()", x.rush(), 0);
        for (int what = 0; what <= 2; what++) {
            is("fees(1, " + what + ")", x.fees(1, what), 0);
            is("fees(999999, " + what + ")", x.fees(999999, what), 0);
        }
        noSuch(x, 0, 0);
        WeekBank y = new WeekBank();
        x.flat(0, 1);
        x.owner(5);
        is("another object has its own", y.count(0) + y.count(1), 0);
    }

    private static void townsAndSizes() {
        about("2: NONE: other numbers");
        for (int town = 0; town <= 3; town++) {
            for (int size = 1; size <= 4; size++) {
                is("flat(" + town + ", " + size + ")", new WeekBank().flat(town, size), 0);
            }
        }
        WeekBank x = new WeekBank();
        int[] towns = {-1, -2, 4, 5, 256, MIN, MAX};
        for (int town : towns) {
            is("flat(" + town + ", 1)", x.flat(town, 1), -1);
        }
        int[] sizes = {0, -1, 5, 6, 257, MIN, MAX};
        for (int size : sizes) {
            is("flat(0, " + size + ")", x.flat(0, size), -1);
        }
        is("none came", x.count(0), 0);
        is("the first", x.flat(3, 4), 0);
    }

    private static void sixFlats() {
        about("2: NONE: six are there");
        WeekBank x = new WeekBank();
        x.owner(1);
        for (int i = 0; i < 6; i++) {
            is("not there yet", x.worth(i, 0), -1);
            is("flat " + i, x.flat(i % 4, 1 + i % 4), i);
            is("it is there", x.worth(i, 0), 0);
            is("it can be owned", x.own(i, 52, 0), true);
        }
        is("a seventh", x.flat(0, 1), -1);
        is("a seventh, again", x.flat(3, 4), -1);
        is("count(0)", x.count(0), 6);
        is("worth of a seventh", x.worth(6, 0), -1);
        is("own of a seventh", x.own(6, 0, 0), false);
        is("party of a seventh", x.party(6, 0), -1);
        is("shut a seventh", x.shut(6, 0, 0), -1);
        is("give of a seventh", x.give(0, 6, 1), -1);
        is("give of the sixth", x.give(0, 5, 52), 0);
        is("its number", x.of(0, 1), 5);
        is("WEEKS of all six", x.ownerOf(0, 3), 6);
    }

    private static void limits() {
        about("3: NONE: another LIMIT");
        WeekBank x = new WeekBank();
        int[] refused = {-1, -2, 10000, 10001, 65536, MIN, MAX};
        for (int limit : refused) {
            is("owner(" + limit + ")", x.owner(limit), -1);
        }
        is("none came", x.count(1), 0);
        is("owner(0)", x.owner(0), 0);
        is("owner(9999)", x.owner(9999), 1);
        is("LIMIT", x.ownerOf(0, 2), 0);
        is("LIMIT", x.ownerOf(1, 2), 9999);
    }

    private static void tenOwners() {
        about("3: NONE: ten came");
        WeekBank x = new WeekBank();
        x.flat(0, 1);
        for (int i = 0; i < 10; i++) {
            is("not there yet", x.ownerOf(i, 0), -1);
            is("not there yet", x.own(0, i, i), false);
            is("owner " + i, x.owner(i), i);
            is("it owns", x.own(0, i, i), true);
        }
        is("an eleventh", x.owner(5), -1);
        is("count(1)", x.count(1), 10);
        is("a WEEK for an eleventh", x.own(0, 20, 10), false);
        is("ownerOf(10, 0)", x.ownerOf(10, 0), -1);
        is("rushWish of an eleventh", x.rushWish(10, 0, 0, 0, 1), false);
        is("an eleventh as heir", x.dies(0, 10, true), -1);
        is("the tenth as heir", x.dies(0, 9, true), 1);
        is("ten came, one is dead", x.owner(5), -1);
        is("count(1)", x.count(1), 10);
    }

    private static void anOwnerAtFirst() {
        about("Terms: POINTS (0 at first), LUCK (0 at first)");
        WeekBank x = new WeekBank();
        x.owner(77);
        int[] due = {0, 0, 77, 0, 0, 0};
        for (int what = 0; what < 6; what++) {
            is("ownerOf(0, " + what + ")", x.ownerOf(0, what), due[what]);
        }
    }

    private static void noOwnerAtFirst() {
        about("Terms: each WEEK of each FLAT has one OWNER or none (none at first)");
        WeekBank x = new WeekBank();
        x.flat(0, 1);
        x.owner(1);
        for (int week = 0; week <= 52; week++) {
            is("party", x.party(0, week), -1);
            is("give", x.give(0, 0, week), -2);
        }
        x.flat(0, 1);
        for (int week = 0; week <= 52; week++) {
            is("own", x.own(1, week, 0), true);
        }
        is("53 WEEKS", x.ownerOf(0, 3), 53);
        is("the other FLAT's first", x.party(0, 0), -1);
        is("the other FLAT's last", x.party(0, 52), -1);
    }

    private static void ownNoSuchOnes() {
        about("4: false: no such ones");
        WeekBank x = bank();
        int[] flats = {-1, 2, 6, MIN, MAX};
        for (int flat : flats) {
            is("own(" + flat + ", 5, 1)", x.own(flat, 5, 1), false);
            is("own(" + flat + ", 5, -1)", x.own(flat, 5, -1), false);
        }
        int[] weeks = {-1, 53, 105, MIN, MAX};
        for (int week : weeks) {
            is("own(0, " + week + ", 1)", x.own(0, week, 1), false);
            is("own(0, " + week + ", -1)", x.own(0, week, -1), false);
        }
        int[] owners = {-2, 4, 10, MIN, MAX};
        for (int owner : owners) {
            is("own(0, 5, " + owner + ")", x.own(0, 5, owner), false);
        }
        is("still 0's", x.party(0, 5), 0);
        is("WEEKS of 0", x.ownerOf(0, 3), 18);
        is("WEEKS of 1", x.ownerOf(1, 3), 18);
        is("the first WEEK", x.own(0, 0, 1), true);
        is("the last WEEK", x.own(0, 52, 1), true);
        is("the last OWNER", x.own(0, 51, 3), true);
        is("WEEKS of 1", x.ownerOf(1, 3), 20);
    }

    private static void ownByADeadOne() {
        about("4: false: a dead one");
        WeekBank x = bank();
        x.dies(1, 2, true);
        is("own(0, 5, 1)", x.own(0, 5, 1), false);
        is("own(0, 0, 1)", x.own(0, 0, 1), false);
        is("still 0's", x.party(0, 5), 0);
        is("none's", x.party(0, 0), -1);
        is("WEEKS of the dead one", x.ownerOf(1, 3), 0);
    }

    private static void ownNobodys() {
        about("4: or nobody's (NONE)");
        WeekBank x = bank();
        is("0's", x.own(0, 5, -1), true);
        is("party", x.party(0, 5), -1);
        is("WEEKS", x.ownerOf(0, 3), 17);
        is("nobody's again", x.own(0, 5, -1), true);
        is("WEEKS", x.ownerOf(0, 3), 17);
        is("0's once more", x.own(0, 5, 0), true);
        is("0's though it is 0's", x.own(0, 5, 0), true);
        is("WEEKS", x.ownerOf(0, 3), 18);
    }

    private static void ownWhatIsGivenIn() {
        about("4: false: it is given in this YEAR (WAITS, BANKED, SWAPPED, TAKEN)");
        WeekBank x = bank();
        for (int week = 1; week <= 6; week++) {
            x.give(0, 0, week);
        }
        x.bank(1);
        x.bank(2);
        x.take(0, 2);
        x.wish(3, 0, 5, 5, 1);
        x.wish(4, 0, 4, 4, 1);
        x.rings(2);
        for (int week = 1; week <= 6; week++) {
            is("own of " + week, x.own(0, week, 1), false);
            is("nobody's of " + week, x.own(0, week, -1), false);
            is("of 0 itself " + week, x.own(0, week, 0), false);
            is("the same WEEK of the other FLAT", x.own(1, week, 1), true);
        }
        is("WEEKS", x.ownerOf(0, 3), 12);
        x.shut(0, 2, 4);
        is("BACK", x.of(1, 5), 4);
        is("own of it", x.own(0, 2, 1), true);
        is("PAST by shutting", x.of(2, 5), 5);
        is("own of it", x.own(0, 3, 1), true);
        is("the other one that is SWAPPED", x.own(0, 5, 1), false);
        x.weeks(6);
        is("PAST as weeks went", x.of(0, 5), 5);
        is("own of it", x.own(0, 1, 1), true);
        is("SWAPPED still", x.own(0, 5, 1), false);
        is("PAST, NOW", x.own(0, 6, 1), true);
    }

    private static void ownYearByYear() {
        about("Terms: YEAR by YEAR the same");
        WeekBank x = bank();
        x.year();
        x.year();
        is("party", x.party(0, 1), 0);
        is("party", x.party(1, 39), 3);
        is("WEEKS", x.ownerOf(3, 3), 18);
    }

    private static void shutNoSuchOnes() {
        about("17: NONE: no such ones");
        WeekBank x = bank();
        x.give(0, 0, 5);
        int[] flats = {-1, 2, 6, MIN, MAX};
        for (int flat : flats) {
            is("shut(" + flat + ", 5, 5)", x.shut(flat, 5, 5), -1);
        }
        int[] weeks = {-1, 53, MIN, MAX};
        for (int week : weeks) {
            is("shut(0, " + week + ", 52)", x.shut(0, week, 52), -1);
            is("shut(0, 0, " + week + ")", x.shut(0, 0, week), -1);
        }
        is("from above to", x.shut(0, 6, 5), -1);
        is("it waits on", x.of(0, 5), 0);
        is("nothing is shut", x.give(0, 0, 6), 1);
    }

    private static void shutNowOrLater() {
        about("17: (NOW or later)");
        WeekBank x = bank();
        is("the first WEEK, NOW", x.shut(0, 0, 0), 0);
        x.weeks(10);
        is("before NOW", x.shut(0, 9, 9), -1);
        is("from before NOW", x.shut(0, 9, 12), -1);
        is("not shut by it", x.give(1, 0, 12), 0);
        is("NOW", x.shut(0, 10, 10), 0);
        is("after NOW", x.shut(0, 11, 11), 0);
        x.weeks(42);
        is("the last WEEK, NOW", x.shut(0, 52, 52), 0);
        is("the last but one", x.shut(0, 51, 52), -1);
    }

    private static void shutFromWeekToWeek() {
        about("17: SHUT from a WEEK to a WEEK");
        WeekBank x = bank();
        x.own(0, 52, 3);
        x.give(0, 0, 4);
        x.give(0, 0, 5);
        x.give(0, 0, 7);
        x.give(0, 0, 8);
        x.give(0, 1, 6);
        is("shut", x.shut(0, 5, 7), 2);
        int[] due = {0, 4, 4, 0, 0};
        for (int gift = 0; gift < 5; gift++) {
            is("gift " + gift, x.of(gift, 5), due[gift]);
        }
        is("shut WEEKS", x.give(0, 0, 5), -4);
        is("shut WEEKS", x.give(0, 0, 6), -4);
        is("shut WEEKS", x.give(0, 0, 7), -4);
        is("not shut", x.give(0, 0, 3), 5);
        is("not shut", x.give(0, 0, 9), 6);
        is("the other FLAT", x.give(0, 1, 7), 7);
        is("the last WEEK", x.shut(0, 52, 52), 0);
        is("it is shut", x.give(3, 0, 52), -4);
        is("all WEEKS", x.shut(1, 0, 52), 2);
    }

    private static void shutTwice() {
        about("17: how many of its GIFTS are BACK or PAST by it");
        WeekBank x = bank();
        x.give(0, 0, 5);
        x.give(0, 0, 6);
        x.bank(1);
        x.take(0, 1);
        is("shut", x.shut(0, 5, 6), 2);
        is("POINTS", x.ownerOf(0, 0), 10);
        is("shut again", x.shut(0, 5, 6), 0);
        is("shut wider", x.shut(0, 0, 52), 0);
        is("POINTS", x.ownerOf(0, 0), 10);
        is("shut still", x.give(0, 0, 5), -4);
    }

    private static void shutNotBelowZero() {
        about("3: POINTS of its OWNER are less by its WORTH, not below 0");
        WeekBank x = bank();
        x.give(0, 0, 5);
        x.give(1, 0, 11);
        x.give(1, 0, 12);
        x.bank(0);
        x.bank(1);
        x.bank(2);
        is("POINTS of 1", x.ownerOf(1, 0), 40);
        is("take", x.take(1, 0), 30);
        is("shut", x.shut(0, 11, 11), 1);
        is("20 less", x.ownerOf(1, 0), 10);
        is("shut", x.shut(0, 12, 12), 1);
        is("not below 0", x.ownerOf(1, 0), 0);
        x.give(2, 0, 21);
        x.bank(3);
        x.shut(0, 21, 21);
        is("just 0", x.ownerOf(2, 0), 0);
        x.give(0, 0, 6);
        is("one that WAITS has no POINTS to lose", x.shut(0, 6, 6), 1);
        is("POINTS of 0", x.ownerOf(0, 0), 10);
    }

    private static void shutGiftByGift() {
        about("3: GIFT by GIFT, by numbers");
        // 1 has 20 POINTS for gift 1 and spends 10 on gift 0: back to 20, then 20 less.
        WeekBank x = bank();
        x.give(0, 0, 9);
        x.give(1, 0, 11);
        x.bank(0);
        x.bank(1);
        is("take", x.take(1, 0), 10);
        is("shut", x.shut(0, 9, 11), 2);
        is("first more, then less", x.ownerOf(1, 0), 0);
        // The other way round 10 less 20 is 0, and then 10 more.
        x = bank();
        x.give(1, 0, 11);
        x.give(0, 0, 9);
        x.bank(0);
        x.bank(1);
        is("take", x.take(1, 1), 10);
        is("shut", x.shut(0, 9, 11), 2);
        is("first less, then more", x.ownerOf(1, 0), 10);
    }

    private static void shutWhatOthersGot() {
        about("3: whoever got it (a dead one, too) has its WORTH more POINTS, and it is PAST");
        WeekBank x = bank();
        x.give(0, 0, 5);
        x.give(1, 0, 11);
        x.wish(0, 0, 11, 11, 1);
        x.wish(1, 0, 5, 5, 1);
        x.rings(2);
        x.give(2, 0, 21);
        x.bank(2);
        x.take(2, 2);
        x.dies(2, 3, true);
        x.dies(1, 3, false);
        is("SWAPPED, got by a dead one", x.shut(0, 5, 5), 1);
        is("10 more", x.ownerOf(1, 0), 10);
        is("PAST", x.of(0, 5), 5);
        is("got by nobody", x.of(0, 7), -1);
        is("it got none", x.of(0, 6), -1);
        is("the other stays SWAPPED", x.of(1, 5), 1);
        is("and got it", x.of(1, 6), 0);
        is("TAKEN, by a dead one", x.shut(0, 21, 21), 1);
        is("30 more", x.ownerOf(2, 0), 30);
        is("not the heir", x.ownerOf(3, 0), 0);
        is("SWAPPED, got by one who lives", x.shut(0, 11, 11), 1);
        is("20 more", x.ownerOf(0, 0), 20);
        is("LUCK as before", x.ownerOf(0, 1), 0);
        is("all POINTS", x.count(9), 60);
    }

    private static void shutBackAndPast() {
        about("2: one that is BACK or PAST is as if it had not been given, but can't be given in again if it is PAST");
        WeekBank x = bank();
        x.give(0, 0, 5);
        x.give(0, 0, 6);
        x.bank(1);
        x.take(0, 1);
        x.shut(0, 5, 6);
        is("party of one that is BACK", x.party(0, 5), 0);
        is("party of one that is PAST", x.party(0, 6), 0);
        is("own", x.own(0, 5, 1), true);
        is("own", x.own(0, 6, 1), true);
        is("party", x.party(0, 5), 1);
        is("party", x.party(0, 6), 1);
        x = bank();
        x.give(0, 0, 5);
        x.dies(0, 1, true);
        is("BACK", x.of(0, 5), 4);
        is("given in again", x.give(1, 0, 5), 1);
        is("the first is BACK still", x.of(0, 5), 4);
        is("party", x.party(0, 5), -2);
        is("bank of the first", x.bank(0), -1);
        is("bank of the second", x.bank(1), 10);
    }

    private static void shutThisYearAlone() {
        about("3: a FLAT is SHUT of this YEAR; those of the YEAR before count for it alone");
        WeekBank x = bank();
        x.give(0, 0, 5);
        x.give(1, 0, 11);
        x.bank(0);
        x.take(0, 0);
        x.year();
        is("TAKEN in the YEAR before", x.shut(0, 0, 52), 0);
        is("TAKEN still", x.of(0, 5), 3);
        is("by 0", x.of(0, 7), 0);
        is("POINTS", x.ownerOf(0, 0), 0);
        is("own", x.own(0, 5, 1), true);
        x.year();
        is("not shut", x.give(1, 0, 5), 2);
    }

    private static void weeksOneToFiftyTwo() {
        about("18: so many WEEKS (1 to 52); NONE: another n");
        int[] refused = {0, -1, -52, 53, 54, 105, MIN, MAX};
        WeekBank x = new WeekBank();
        for (int n : refused) {
            is("weeks(" + n + ")", x.weeks(n), -1);
        }
        is("NOW", x.count(3), 0);
        is("weeks(1)", x.weeks(1), 1);
        for (int n : refused) {
            is("weeks(" + n + ")", x.weeks(n), -1);
        }
        is("NOW", x.count(3), 1);
        is("weeks(52) of a new one", new WeekBank().weeks(52), 52);
    }

    private static void weeksWithoutAWrapAround() {
        about("18: NONE: there would be no such WEEK");
        WeekBank x = new WeekBank();
        is("weeks(20)", x.weeks(20), 20);
        is("weeks(33)", x.weeks(33), -1);
        is("weeks(52)", x.weeks(52), -1);
        is("NOW", x.count(3), 20);
        is("the YEAR", x.count(2), 0);
        is("weeks(31)", x.weeks(31), 51);
        is("weeks(2)", x.weeks(2), -1);
        is("weeks(1)", x.weeks(1), 52);
        is("weeks(1)", x.weeks(1), -1);
        is("year()", x.year(), 1);
        is("NOW", x.count(3), 0);
        is("weeks(52)", x.weeks(52), 52);
    }

    private static void giftsPastAsWeeksGo() {
        about("3: a GIFT that WAITS or is BANKED and whose WEEK is NOW or less is PAST");
        WeekBank x = bank();
        for (int week = 4; week <= 6; week++) {
            x.give(0, 0, week);
        }
        for (int week = 4; week <= 6; week++) {
            x.give(0, 1, week);
            x.bank(week - 1);
        }
        x.give(0, 0, 1);
        x.bank(6);
        x.take(0, 6);
        x.give(0, 0, 2);
        x.give(0, 0, 3);
        x.wish(7, 0, 3, 3, 1);
        x.wish(8, 0, 2, 2, 1);
        x.rings(2);
        is("a refused call", x.weeks(53), -1);
        is("makes none PAST", x.count(5) + x.count(6), 6);
        x.weeks(3);
        is("none is PAST yet", x.count(5) + x.count(6), 6);
        x.weeks(2);
        int[] due = {5, 5, 0, 5, 5, 2, 3, 1, 1};
        for (int gift = 0; gift < due.length; gift++) {
            is("gift " + gift, x.of(gift, 5), due[gift]);
        }
        is("count(5)", x.count(5), 1);
        is("count(6)", x.count(6), 1);
        is("POINTS stay", x.ownerOf(0, 0), 45);
        is("a PAST one is its OWNER's", x.party(0, 5), 0);
        is("a PAST one isn't banked", x.bank(1), -1);
        is("nor taken", x.take(0, 4), -1);
        is("nor has it a wish", x.wish(1, 0, 0, 0, 1), false);
        is("nor given in again", x.give(0, 0, 5), -3);
    }

    private static void yearsFromZeroOn() {
        about("19: the next YEAR begins: its number");
        WeekBank x = new WeekBank();
        x.flat(0, 1);
        x.owner(1);
        x.own(0, 1, 0);
        is("YEAR", x.count(2), 0);
        is("give", x.give(0, 0, 1), 0);
        for (int year = 1; year <= 100; year++) {
            is("year()", x.year(), year);
            is("count(2)", x.count(2), year);
            is("give", x.give(0, 0, 1), year);
        }
        is("YEAR of a GIFT", x.of(0, 3), 0);
        is("YEAR of a GIFT", x.of(100, 3), 100);
    }

    private static void giftsPastAsAYearBegins() {
        about("3: as a YEAR begins those that WAIT or are BANKED are PAST, the others stay as they are told");
        WeekBank x = bank();
        x.own(0, 52, 0);
        x.give(0, 0, 52);
        x.give(0, 0, 1);
        x.give(0, 0, 2);
        x.give(0, 0, 3);
        x.give(1, 0, 11);
        x.give(1, 0, 12);
        x.give(2, 0, 21);
        x.bank(1);
        x.bank(2);
        x.take(0, 2);
        x.wish(3, 0, 11, 11, 1);
        x.wish(4, 0, 3, 3, 1);
        x.rings(2);
        x.dies(2, 0, true);
        int[] before = {0, 2, 3, 1, 1, 0, 4};
        for (int gift = 0; gift < before.length; gift++) {
            is("gift " + gift, x.of(gift, 5), before[gift]);
        }
        x.year();
        int[] after = {5, 5, 3, 1, 1, 5, 4};
        for (int gift = 0; gift < after.length; gift++) {
            is("gift " + gift + " then", x.of(gift, 5), after[gift]);
        }
        is("it got", x.of(3, 6), 4);
        is("got by", x.of(3, 7), 1);
        is("taken by", x.of(2, 7), 0);
        is("count for the YEAR before alone: party", x.party(0, 3), 0);
        is("own", x.own(0, 3, 1), true);
        is("give", x.give(1, 0, 3), 7);
        is("count(5)", x.count(5), 1);
        is("count(6)", x.count(6), 0);
        is("POINTS stay", x.ownerOf(0, 0), 10);
    }

    private static void nothingIsShutInANewYear() {
        about("3: NOW is 0, nothing is SHUT");
        WeekBank x = bank();
        x.weeks(3);
        x.shut(0, 3, 52);
        x.shut(1, 4, 5);
        is("SHUT", x.give(0, 0, 4), -4);
        is("SHUT", x.give(0, 1, 5), -4);
        x.year();
        is("NOW", x.count(3), 0);
        is("give", x.give(0, 0, 1), 0);
        is("give", x.give(0, 0, 4), 1);
        is("give", x.give(0, 1, 5), 2);
        is("shut again", x.shut(0, 0, 52), 2);
    }

    private static void diesNoSuchOnes() {
        about("20: NONE: no such ones, a dead one, both are one");
        WeekBank x = bank();
        int[] others = {-1, -2, 4, 10, MIN, MAX};
        for (int other : others) {
            is("dies(" + other + ", 0, true)", x.dies(other, 0, true), -1);
            is("dies(0, " + other + ", true)", x.dies(0, other, true), -1);
            is("dies(0, " + other + ", false)", x.dies(0, other, false), -1);
            is("dies(" + other + ", " + other + ", true)", x.dies(other, other, true), -1);
        }
        is("both are one", x.dies(3, 3, true), -1);
        is("both are one, no", x.dies(3, 3, false), -1);
        is("alive", x.ownerOf(0, 4) + x.ownerOf(3, 4), 0);
        is("the last dies", x.dies(3, 0, true), 18);
        is("dead already", x.dies(3, 0, true), -1);
        is("a dead heir", x.dies(0, 3, true), -1);
        is("a dead heir, no", x.dies(0, 3, false), -1);
        is("both are dead and one", x.dies(3, 3, true), -1);
        is("alive", x.ownerOf(0, 4), 0);
        is("WEEKS", x.ownerOf(0, 3), 36);
    }

    private static void diesWithNothing() {
        about("20: how many WEEKS go to the heir");
        WeekBank x = bank();
        x.owner(1);
        x.owner(1);
        is("without WEEKS", x.dies(4, 5, true), 0);
        is("dead", x.ownerOf(4, 4), 1);
        is("18", x.dies(0, 5, true), 18);
        is("36, inherited ones too", x.dies(5, 1, true), 18);
        is("36", x.dies(1, 2, true), 36);
        is("the last to inherit", x.dies(2, 3, true), 54);
        is("WEEKS", x.ownerOf(3, 3), 72);
        is("nobody is left", x.dies(3, 2, true), -1);
        for (int yes = 0; yes <= 1; yes++) {
            x = bank();
            x.own(0, 0, 0);
            x.own(1, 52, 0);
            is("the first WEEK and the last, too", x.dies(0, 1, yes == 1), 20 * yes);
            is("the first", x.party(0, 0), yes == 1 ? 1 : -1);
            is("the last", x.party(1, 52), yes == 1 ? 1 : -1);
        }
    }

    private static void diesFreeOrBound() {
        about("3: if heirs are bound by RULES, or the heir says yes; else WEEKS have no OWNER, POINTS are lost");
        String[] texts = {"heirs free;", "heirs bound;", ""};
        for (String text : texts) {
            for (int yes = 0; yes <= 1; yes++) {
                WeekBank x = bank();
                x.give(0, 0, 5);
                x.bank(0);
                x.give(1, 0, 11);
                x.bank(1);
                rules(x, text);
                boolean inherits = text.equals("heirs bound;") || yes == 1;
                is("dies by '" + text + "', " + yes, x.dies(0, 1, yes == 1), inherits ? 18 : 0);
                is("WEEKS of the heir", x.ownerOf(1, 3), inherits ? 36 : 18);
                is("POINTS of the heir", x.ownerOf(1, 0), inherits ? 30 : 20);
                is("all POINTS", x.count(9), inherits ? 30 : 20);
                is("WEEKS of the dead one", x.ownerOf(0, 3), 0);
                is("POINTS of the dead one", x.ownerOf(0, 0), 0);
                is("party", x.party(0, 1), inherits ? 1 : -1);
                is("party of a BANKED one", x.party(0, 5), -2);
                is("dead", x.ownerOf(0, 4), 1);
            }
        }
    }

    private static void diesWithGifts() {
        about("3: GIFTS that WAIT are BACK");
        WeekBank x = bank();
        x.give(0, 0, 1);
        x.give(0, 0, 2);
        x.give(0, 0, 3);
        x.give(0, 0, 4);
        x.give(1, 0, 11);
        x.give(1, 0, 12);
        x.bank(1);
        x.bank(2);
        x.take(0, 2);
        x.wish(3, 0, 11, 11, 1);
        x.wish(4, 0, 4, 4, 1);
        x.rings(2);
        is("its WEEKS that are given in go, too", x.dies(0, 1, true), 18);
        int[] due = {4, 2, 3, 1, 1, 0};
        for (int gift = 0; gift < due.length; gift++) {
            is("gift " + gift, x.of(gift, 5), due[gift]);
        }
        is("OWNER of a GIFT stays", x.of(1, 0), 0);
        is("party of one that is BACK", x.party(0, 1), 1);
        is("party of a BANKED one", x.party(0, 2), -2);
        is("party of one that the dead one took", x.party(0, 3), 0);
        is("party of one that it got", x.party(0, 11), 0);
        is("a BANKED one can be taken", x.take(1, 1), 0);
        x.year();
        is("the heir's in the next YEAR", x.party(0, 3), 1);
    }

    private static void diesWithLuckAndAWish() {
        about("3: all WEEKS go to an heir, POINTS too");
        WeekBank x = bank();
        x.give(0, 0, 1);
        x.bank(0);
        x.rushWish(0, 0, 1, 1, 1);
        x.rush();
        x.rushWish(0, -1, 0, 52, 1);
        x.rushWish(2, -1, 0, 52, 1);
        x.dies(0, 1, true);
        is("LUCK doesn't go to the heir", x.ownerOf(1, 1), 0);
        is("nor the WISH", x.ownerOf(1, 5), 0);
        is("a WISH of another stays", x.ownerOf(2, 5), 1);
        is("nor the LIMIT", x.ownerOf(1, 2), 200);
        x.dies(1, 2, true);
        is("an heir keeps the WISH that it has", x.ownerOf(2, 5), 1);
    }

    private static void aDeadOneDoesNothingMore() {
        about("3: a dead one owns, gives and takes nothing more, and has no WISH for THE RUSH");
        WeekBank x = bank();
        x.give(1, 0, 11);
        x.bank(0);
        x.rushWish(0, -1, 0, 52, 1);
        rules(x, "");
        x.give(1, 0, 12);
        x.bank(1);
        is("dies", x.dies(0, 1, false), 0);
        is("wish", x.ownerOf(0, 5), 0);
        is("rush", x.rush(), 0);
        is("rushWish", x.rushWish(0, -1, 0, 52, 1), false);
        is("own", x.own(0, 1, 0), false);
        is("give", x.give(0, 0, 1), -1);
        is("take, for nothing", x.take(0, 1), -1);
        is("take", x.take(0, 0), -1);
        is("LIMIT", x.ownerOf(0, 2), 100);
        is("whoever lives takes it", x.take(2, 1), 0);
    }
}
