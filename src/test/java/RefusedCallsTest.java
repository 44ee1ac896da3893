import java.util.ArrayList;
import java.util.List;

/** A refused call answers as the document says and changes nothing: seen by all that can be asked, and by what comes next. */
public final class RefusedCallsTest extends Checks {
    private static final int[] WILD = {Integer.MIN_VALUE, Integer.MIN_VALUE + 1, -257, -256, -3, 54, 256, 301, 65536,
        1000000, Integer.MAX_VALUE - 1, Integer.MAX_VALUE};

    private interface Call {
        Object on(WeekBank x);
    }

    private static final class Refused {
        final String name;
        final Call call;
        final String due;

        Refused(String name, Call call, Object due) {
            this.name = name;
            this.call = call;
            this.due = String.valueOf(due);
        }
    }

    private static final List<Refused> REFUSED = new ArrayList<>();

    public static void main(String[] args) {
        about("a refused call");
        refuseFlatsAndOwners();
        refuseOwn();
        refuseTheTape();
        refuseGive();
        refuseWishes();
        refuseBankAndTake();
        refuseShutAndWeeks();
        refuseDies();
        refuseQuestions();
        refuseWildNumbers();
        String whole = everything(busy());
        for (Refused refused : REFUSED) {
            WeekBank x = busy();
            is(refused.name, String.valueOf(refused.call.on(x)), refused.due);
            is("all behind " + refused.name, everything(x), whole);
        }
        fullBankRefuses();
        finish(REFUSED.size() + " refused calls change nothing");
    }

    private static void refuse(String name, Object due, Call call) {
        REFUSED.add(new Refused(name, call, due));
    }

    /**
     * YEAR 1, NOW 2, 20 bytes on the TAPE, a FAULT at 5; OWNER 3 dead. GIFTS: 0 TAKEN in the YEAR before, 1 PAST,
     * 2 and 3 SWAPPED, 4 BANKED, 5 TAKEN, 6 BACK, 7 and 8 waiting with WISHES that fit, 9 waiting without one.
     */
    private static WeekBank busy() {
        WeekBank x = bank();
        x.give(0, 0, 1);
        x.bank(0);
        x.take(0, 0);
        x.year();
        x.give(0, 0, 1);
        x.weeks(2);
        x.give(0, 0, 3);
        x.give(1, 0, 11);
        x.wish(2, -1, 11, 11, 1);
        x.wish(3, -1, 3, 3, 1);
        x.rings(2);
        x.give(1, 1, 12);
        x.bank(4);
        x.give(2, 1, 21);
        x.bank(5);
        x.take(2, 5);
        x.give(3, 0, 31);
        x.dies(3, 2, true);
        x.give(0, 0, 5);
        x.give(1, 0, 13);
        x.give(2, 0, 22);
        x.wish(7, 0, 13, 13, 1);
        x.wish(8, 0, 5, 5, 1);
        x.rushWish(1, 1, 12, 12, 3);
        x.shut(1, 8, 9);
        rules(x, "size 9 9;");
        x.feed(0x73697a65, 0x20312037, 0x3b202020, 0x20202020, 0x20202020);
        return x;
    }

    private static String everything(WeekBank x) {
        StringBuilder all = new StringBuilder();
        tell(all, x);
        for (int flat = 0; flat < 2; flat++) {
            for (int week = 0; week <= 52; week += flat == 0 ? 1 : 4) {
                all.append(x.worth(flat, week)).append(' ').append(x.party(flat, week)).append(", ");
            }
        }
        all.append("place ").append(x.place()).append(", rings ").append(x.rings(9));
        all.append(", rush ").append(x.rush()).append(", rules ").append(x.rules());
        all.append(", shut ").append(x.give(0, 1, 8)).append(x.give(0, 1, 7)).append(x.worth(0, 7));
        tell(all, x);
        return all.toString();
    }

    private static void tell(StringBuilder all, WeekBank x) {
        for (int what = 0; what <= 9; what++) {
            all.append("count ").append(what).append(' ').append(x.count(what)).append(", ");
        }
        for (int owner = 0; owner < 4; owner++) {
            for (int what = 0; what <= 5; what++) {
                all.append("owner ").append(owner).append(' ').append(x.ownerOf(owner, what)).append(", ");
            }
        }
        for (int gift = 0; gift < x.count(4); gift++) {
            for (int what = 4; what <= 7; what++) {
                all.append("gift ").append(gift).append(' ').append(x.of(gift, what)).append(", ");
            }
        }
    }

    private static void refuseFlatsAndOwners() {
        refuse("flat(-1, 1)", -1, x -> x.flat(-1, 1));
        refuse("flat(4, 1)", -1, x -> x.flat(4, 1));
        refuse("flat(0, 0)", -1, x -> x.flat(0, 0));
        refuse("flat(0, 5)", -1, x -> x.flat(0, 5));
        refuse("owner(-1)", -1, x -> x.owner(-1));
        refuse("owner(10000)", -1, x -> x.owner(10000));
    }

    private static void refuseOwn() {
        refuse("own(2, 1, 0)", false, x -> x.own(2, 1, 0));
        refuse("own(-1, 1, 0)", false, x -> x.own(-1, 1, 0));
        refuse("own(0, -1, 0)", false, x -> x.own(0, -1, 0));
        refuse("own(0, 53, 0)", false, x -> x.own(0, 53, 0));
        refuse("own(0, 2, 4)", false, x -> x.own(0, 2, 4));
        refuse("own(0, 2, -2)", false, x -> x.own(0, 2, -2));
        refuse("own by a dead one", false, x -> x.own(0, 2, 3));
        refuse("own of one SWAPPED", false, x -> x.own(0, 3, 1));
        refuse("own of one BANKED", false, x -> x.own(1, 12, 0));
        refuse("own of one TAKEN", false, x -> x.own(1, 21, -1));
        refuse("own of one that WAITS", false, x -> x.own(0, 5, 1));
    }

    private static void refuseTheTape() {
        refuse("end(-1)", -1, x -> x.end(-1));
        refuse("end(21)", -1, x -> x.end(21));
    }

    private static void refuseGive() {
        refuse("give(-1, 0, 4)", -1, x -> x.give(-1, 0, 4));
        refuse("give(4, 0, 4)", -1, x -> x.give(4, 0, 4));
        refuse("give(0, 2, 4)", -1, x -> x.give(0, 2, 4));
        refuse("give(0, 0, 53)", -1, x -> x.give(0, 0, 53));
        refuse("give by a dead one", -1, x -> x.give(3, 0, 32));
        refuse("give of another's", -2, x -> x.give(1, 0, 4));
        refuse("give of nobody's", -2, x -> x.give(1, 0, 40));
        refuse("give of NOW", -3, x -> x.give(0, 0, 2));
        refuse("give of less", -3, x -> x.give(0, 1, 1));
        refuse("give of a PAST one", -3, x -> x.give(0, 0, 1));
        refuse("give of a SHUT one", -4, x -> x.give(0, 1, 9));
        refuse("give of one SWAPPED", -5, x -> x.give(0, 0, 3));
        refuse("give of one BANKED", -5, x -> x.give(1, 1, 12));
        refuse("give of one TAKEN", -5, x -> x.give(2, 1, 21));
        refuse("give of one that WAITS", -5, x -> x.give(0, 0, 5));
    }

    private static void refuseWishes() {
        refuse("wish of no such gift", false, x -> x.wish(10, -1, 0, 52, 1));
        for (int gift = 0; gift <= 6; gift++) {
            int one = gift;
            refuse("wish of gift " + gift, false, x -> x.wish(one, -1, 0, 52, 1));
        }
        int[][] others = {{-2, 0, 52, 1}, {4, 0, 52, 1}, {0, -1, 52, 1}, {0, 0, 53, 1}, {0, 5, 4, 1}, {0, 0, 52, 0},
            {0, 0, 52, 5}};
        for (int[] w : others) {
            refuse("wish of town " + w[0] + ", " + w[1] + " to " + w[2] + ", size " + w[3], false,
                x -> x.wish(7, w[0], w[1], w[2], w[3]));
            refuse("rushWish of town " + w[0] + ", " + w[1] + " to " + w[2] + ", size " + w[3], false,
                x -> x.rushWish(1, w[0], w[1], w[2], w[3]));
        }
        refuse("rushWish of a dead one", false, x -> x.rushWish(3, -1, 0, 52, 1));
        refuse("rushWish of no such one", false, x -> x.rushWish(4, -1, 0, 52, 1));
        refuse("rings(1)", -1, x -> x.rings(1));
        refuse("rings(10)", -1, x -> x.rings(10));
    }

    private static void refuseBankAndTake() {
        refuse("bank(-1)", -1, x -> x.bank(-1));
        refuse("bank(10)", -1, x -> x.bank(10));
        for (int gift = 0; gift <= 6; gift++) {
            int one = gift;
            refuse("bank of gift " + gift, -1, x -> x.bank(one));
        }
        for (int gift = 0; gift <= 10; gift++) {
            int one = gift;
            if (gift != 4) {
                refuse("take of gift " + gift, -1, x -> x.take(1, one));
            }
        }
        refuse("take by too few POINTS", -2, x -> x.take(0, 4));
        refuse("take by a dead one", -1, x -> x.take(3, 4));
        refuse("take by no such one", -1, x -> x.take(4, 4));
    }

    private static void refuseShutAndWeeks() {
        refuse("shut(2, 3, 4)", -1, x -> x.shut(2, 3, 4));
        refuse("shut(-1, 3, 4)", -1, x -> x.shut(-1, 3, 4));
        refuse("shut(0, 1, 52)", -1, x -> x.shut(0, 1, 52));
        refuse("shut(0, 3, 53)", -1, x -> x.shut(0, 3, 53));
        refuse("shut(0, 5, 3)", -1, x -> x.shut(0, 5, 3));
        refuse("weeks(0)", -1, x -> x.weeks(0));
        refuse("weeks(-1)", -1, x -> x.weeks(-1));
        refuse("weeks(51)", -1, x -> x.weeks(51));
        refuse("weeks(53)", -1, x -> x.weeks(53));
    }

    private static void refuseDies() {
        refuse("dies(4, 0)", -1, x -> x.dies(4, 0, true));
        refuse("dies(0, 4)", -1, x -> x.dies(0, 4, true));
        refuse("dies(0, -1)", -1, x -> x.dies(0, -1, false));
        refuse("dies(0, 0)", -1, x -> x.dies(0, 0, true));
        refuse("dies of a dead one", -1, x -> x.dies(3, 0, true));
        refuse("dies with a dead heir", -1, x -> x.dies(0, 3, true));
    }

    private static void refuseQuestions() {
        refuse("worth(2, 0)", -1, x -> x.worth(2, 0));
        refuse("worth(0, 53)", -1, x -> x.worth(0, 53));
        refuse("party(2, 0)", -1, x -> x.party(2, 0));
        refuse("party(0, 53)", -1, x -> x.party(0, 53));
        refuse("fees(0, 0)", -1, x -> x.fees(0, 0));
        refuse("fees(1000000, 0)", -1, x -> x.fees(1000000, 0));
        refuse("fees(1, 3)", -1, x -> x.fees(1, 3));
        refuse("of(10, 0)", "throws", x -> ofOrThrows(x, 10, 0));
        refuse("of(0, 8)", "throws", x -> ofOrThrows(x, 0, 8));
        refuse("ownerOf(4, 0)", -1, x -> x.ownerOf(4, 0));
        refuse("ownerOf(0, 6)", -1, x -> x.ownerOf(0, 6));
        refuse("count(10)", -1, x -> x.count(10));
        refuse("fees, only reckoned", 0, x -> x.fees(999999, 0));
    }

    /** Numbers far from all that can be, in the place of each argument in turn. */
    private static void refuseWildNumbers() {
        for (int n : WILD) {
            refuse("flat(" + n + ", 1)", -1, x -> x.flat(n, 1));
            refuse("flat(0, " + n + ")", -1, x -> x.flat(0, n));
            refuse("own(" + n + ", 2, 0)", false, x -> x.own(n, 2, 0));
            refuse("own(0, " + n + ", 0)", false, x -> x.own(0, n, 0));
            refuse("own(0, 2, " + n + ")", false, x -> x.own(0, 2, n));
            refuse("end(" + n + ")", -1, x -> x.end(n));
            refuse("worth(" + n + ", 2)", -1, x -> x.worth(n, 2));
            refuse("worth(0, " + n + ")", -1, x -> x.worth(0, n));
            refuse("give(" + n + ", 0, 4)", -1, x -> x.give(n, 0, 4));
            refuse("give(0, " + n + ", 4)", -1, x -> x.give(0, n, 4));
            refuse("give(0, 0, " + n + ")", -1, x -> x.give(0, 0, n));
            refuse("wish(" + n + ", ..)", false, x -> x.wish(n, -1, 0, 52, 1));
            refuse("wish of town " + n, false, x -> x.wish(7, n, 0, 52, 1));
            refuse("wish from " + n, false, x -> x.wish(7, -1, n, 52, 1));
            refuse("wish to " + n, false, x -> x.wish(7, -1, 0, n, 1));
            refuse("wish of size " + n, false, x -> x.wish(7, -1, 0, 52, n));
            refuse("rushWish(" + n + ", ..)", false, x -> x.rushWish(n, -1, 0, 52, 1));
            refuse("rushWish of town " + n, false, x -> x.rushWish(1, n, 0, 52, 1));
            refuse("rushWish from " + n, false, x -> x.rushWish(1, -1, n, 52, 1));
            refuse("rushWish to " + n, false, x -> x.rushWish(1, -1, 0, n, 1));
            refuse("rushWish of size " + n, false, x -> x.rushWish(1, -1, 0, 52, n));
            refuse("rings(" + n + ")", -1, x -> x.rings(n));
            refuse("bank(" + n + ")", -1, x -> x.bank(n));
            refuse("take(" + n + ", 4)", -1, x -> x.take(n, 4));
            refuse("take(1, " + n + ")", -1, x -> x.take(1, n));
            refuse("shut(" + n + ", 3, 4)", -1, x -> x.shut(n, 3, 4));
            refuse("shut(0, " + n + ", 52)", -1, x -> x.shut(0, n, 52));
            refuse("shut(0, 3, " + n + ")", -1, x -> x.shut(0, 3, n));
            refuse("weeks(" + n + ")", -1, x -> x.weeks(n));
            refuse("dies(" + n + ", 0)", -1, x -> x.dies(n, 0, true));
            refuse("dies(0, " + n + ")", -1, x -> x.dies(0, n, true));
            refuse("fees(1, " + n + ")", -1, x -> x.fees(1, n));
            refuse("party(" + n + ", 2)", -1, x -> x.party(n, 2));
            refuse("party(0, " + n + ")", -1, x -> x.party(0, n));
            refuse("of(" + n + ", 0)", "throws", x -> ofOrThrows(x, n, 0));
            refuse("of(0, " + n + ")", "throws", x -> ofOrThrows(x, 0, n));
            refuse("ownerOf(" + n + ", 0)", -1, x -> x.ownerOf(n, 0));
            refuse("ownerOf(0, " + n + ")", -1, x -> x.ownerOf(0, n));
            refuse("count(" + n + ")", -1, x -> x.count(n));
            if (n < 0 || n > 9999) {
                refuse("owner(" + n + ")", -1, x -> x.owner(n));
            }
            if (n < 1 || n > 999999) {
                refuse("fees(" + n + ", 0)", -1, x -> x.fees(n, 0));
            }
        }
    }

    /** What is full refuses, and stays as it is. */
    private static void fullBankRefuses() {
        about("a full bank");
        String before = everything(full());
        WeekBank x = full();
        is("flat", x.flat(0, 1), -1);
        is("owner", x.owner(1), -1);
        is("feed", x.feed(1, 2, 3, 4, 5), -1);
        is("give", x.give(0, 0, 4), -6);
        is("all behind them", everything(x), before);
    }

    private static WeekBank full() {
        WeekBank x = bank();
        for (int i = 2; i < 6; i++) {
            x.flat(2, 2);
        }
        for (int i = 4; i < 10; i++) {
            x.owner(0);
        }
        for (int week = 1; week <= 9; week++) {
            x.give(1, 0, 10 + week);
            x.wish(week - 1, 0, 0, 52, 1);
        }
        for (int i = 0; i < 15; i++) {
            x.feed(0x20202020, 0x20202020, 0x20202020, 0x20202020, 0x20202020);
        }
        return x;
    }
}
