/** Each promise of the document by hand: ordinary inputs, the edges it names, wrong inputs. */
public final class PromisesTest extends Checks {
    public static void main(String[] args) {
        newObject();
        flats();
        owners();
        owning();
        feeding();
        ending();
        rulesRead();
        rulesKept();
        faultsOfKindOne();
        faultsOfKindTwo();
        faultOfKindThree();
        worths();
        gives();
        giveRoom();
        wishes();
        rushWishes();
        ringsChosen();
        ringsTold();
        banks();
        takes();
        rushes();
        rushOrder();
        shuts();
        shutsAfterDeath();
        weeksGo();
        yearsGo();
        deaths();
        boundHeirs();
        feesReckoned();
        feesOfTheWeekless();
        parties();
        giftsTold();
        ownersTold();
        counts();
        finish("all promises hold");
    }

    private static void newObject() {
        about("1");
        WeekBank x = new WeekBank();
        for (int what = 0; what <= 9; what++) {
            is("count(" + what + ")", x.count(what), 0);
        }
        is("place()", x.place(), -1);
        is("rules()", x.rules(), 0);
        is("NONE", WeekBank.NONE, -1);
        is("rush()", x.rush(), 0);
        noSuch(x, 0, 0);
    }

    private static void flats() {
        about("2");
        WeekBank x = new WeekBank();
        is("flat(-1, 1)", x.flat(-1, 1), -1);
        is("flat(4, 1)", x.flat(4, 1), -1);
        is("flat(0, 0)", x.flat(0, 0), -1);
        is("flat(0, 5)", x.flat(0, 5), -1);
        is("flat(0, 1)", x.flat(0, 1), 0);
        is("flat(3, 4)", x.flat(3, 4), 1);
        for (int i = 2; i < 6; i++) {
            is("flat(1, 2)", x.flat(1, 2), i);
        }
        is("a seventh", x.flat(1, 2), -1);
        is("count(0)", x.count(0), 6);
    }

    private static void owners() {
        about("3");
        WeekBank x = new WeekBank();
        is("owner(-1)", x.owner(-1), -1);
        is("owner(10000)", x.owner(10000), -1);
        is("owner(0)", x.owner(0), 0);
        is("owner(9999)", x.owner(9999), 1);
        is("limit", x.ownerOf(1, 2), 9999);
        is("dies", x.dies(0, 1, true), 0);
        for (int i = 2; i < 10; i++) {
            is("owner(5)", x.owner(5), i);
        }
        is("an eleventh", x.owner(5), -1);
        is("count(1)", x.count(1), 10);
    }

    private static void owning() {
        about("4");
        WeekBank x = bank();
        is("own(2, 1, 0)", x.own(2, 1, 0), false);
        is("own(-1, 1, 0)", x.own(-1, 1, 0), false);
        is("own(0, -1, 0)", x.own(0, -1, 0), false);
        is("own(0, 53, 0)", x.own(0, 53, 0), false);
        is("own(0, 1, 4)", x.own(0, 1, 4), false);
        is("own(0, 1, -2)", x.own(0, 1, -2), false);
        is("own(0, 0, 3)", x.own(0, 0, 3), true);
        is("own(0, 52, 3)", x.own(0, 52, 3), true);
        is("weeks", x.ownerOf(3, 3), 20);
        is("own(0, 52, 2)", x.own(0, 52, 2), true);
        is("own(0, 0, -1)", x.own(0, 0, -1), true);
        is("weeks", x.ownerOf(3, 3), 18);
        is("weeks", x.ownerOf(2, 3), 19);
        x.give(0, 0, 1);
        is("own of one that waits", x.own(0, 1, 1), false);
        is("own of one that waits, nobody's", x.own(0, 1, -1), false);
        x.bank(0);
        is("own of a banked one", x.own(0, 1, 1), false);
        x.take(0, 0);
        is("own of a taken one", x.own(0, 1, 1), false);
        x.shut(0, 1, 1);
        is("own of a past one", x.own(0, 1, 1), true);
        x.give(0, 0, 2);
        x.give(0, 0, 3);
        x.wish(1, -1, 0, 52, 1);
        x.wish(2, -1, 0, 52, 1);
        x.rings(2);
        is("own of a swapped one", x.own(0, 2, 1), false);
        x.year();
        is("own in the next year", x.own(0, 2, 1), true);
        x.dies(3, 0, false);
        is("own by a dead one", x.own(0, 2, 3), false);
    }

    private static void feeding() {
        about("5");
        WeekBank x = new WeekBank();
        is("feed", x.feed(0x68656972, 0x7320626f, 0x756e643b, 0x0a202020, 0x20202020), 20);
        is("rules()", x.rules(), 1);
        is("bound", x.count(8), 1);
        for (int i = 1; i <= 15; i++) {
            is("feed", x.feed(-1, 0, 1, 2, 3), 20 * i);
        }
        is("feed beyond 300", x.feed(1, 2, 3, 4, 5), -1);
        is("count(7)", x.count(7), 300);
        is("end(281)", x.end(281), 281);
        is("feed to 301", x.feed(1, 2, 3, 4, 5), -1);
        is("end(280)", x.end(280), 280);
        is("feed to 300", x.feed(1, 2, 3, 4, 5), 300);
        is("a byte above 127", x.rules(), -2);
        is("its place", x.place(), 0);
    }

    private static void ending() {
        about("6");
        WeekBank x = new WeekBank();
        is("end(0)", x.end(0), 0);
        is("end(1)", x.end(1), -1);
        is("end(-1)", x.end(-1), -1);
        tape(x, "size 1 7; size 2 8;");
        is("end(20)", x.end(20), -1);
        is("end(19)", x.end(19), 19);
        is("end(9)", x.end(9), 9);
        is("count(7)", x.count(7), 9);
        is("end(10)", x.end(10), -1);
        is("rules()", x.rules(), 1);
    }

    private static void rulesRead() {
        about("7");
        good("", 0);
        good(" \n \n", 0);
        good("season0 52 9999;size4 0;early52 0001;heirs free;", 4);
        good("season\n05\n0005\n0;heirs\nbound\n;", 2);
        good("size1 1;".repeat(30), 30);
        good("size1 1;".repeat(30) + " \n  ", 30);
        good(" ".repeat(300 - 9) + "size 1 1;", 1);
        good("\n".repeat(300), 0);
    }

    private static void rulesKept() {
        about("7");
        WeekBank x = bank();
        is("worth", x.worth(1, 5), 15);
        is("rules", rules(x, "heirs bound; season 5 5 1; size 9 1;"), -3);
        is("worth after a fault", x.worth(1, 5), 15);
        is("heirs after a fault", x.count(8), 0);
        is("rules", rules(x, "heirs bound;"), 1);
        is("worth after others", x.worth(1, 5), 0);
        is("heirs", x.count(8), 1);
        is("rules", rules(x, "heirs bound; heirs free;"), 2);
        is("the last of heirs", x.count(8), 0);
        is("rules", rules(x, "heirs bound;"), 1);
        is("no rules", rules(x, ""), 0);
        is("heirs without rules", x.count(8), 0);
        is("a fault", rules(x, "?"), -2);
        is("place", x.place(), 0);
        is("none", rules(x, ""), 0);
        is("place without one", x.place(), -1);
    }

    private static void faultsOfKindOne() {
        about("7, 8");
        fault("x", 1, 0);
        fault("siz", 1, 0);
        fault("sizes 1 1;", 1, 0);
        fault("  Season 1 2 3;", 1, 2);
        fault("seaSon 1 2 3;", 1, 0);
        fault("5", 1, 0);
        fault(";", 1, 0);
        fault("size", 1, 4);
        fault("size 1", 1, 6);
        fault("size 1 1", 1, 8);
        fault("size 1 1  \n", 1, 11);
        fault("size 1 1;;", 1, 9);
        fault("size 1 1 1;", 1, 9);
        fault("size one 1;", 1, 5);
        fault("size 1;", 1, 6);
        fault("size 1 12345;", 1, 7);
        fault("size 00001 1;", 1, 5);
        fault("season 1 2;", 1, 10);
        fault("season 1 2 3", 1, 12);
        fault("season 1 2 3 4;", 1, 13);
        fault("season 1 2 3 size", 1, 13);
        fault("early 1 -5;", 1, 8);
        fault("heirs;", 1, 5);
        fault("heirs 1;", 1, 6);
        fault("heirs bo;", 1, 6);
        fault("heirs boundfree;", 1, 6);
        fault("heirs bound free;", 1, 12);
        fault("heirs size 1 1;", 1, 6);
        fault("size\t1 1;", 1, 4);
        fault("size 1 1;\r", 1, 9);
        fault("size 1 1; ,", 1, 10);
        fault("size 99999", 1, 5);
        fault("size 1,5", 1, 6);
        fault("dize 1 1;", 1, 0);
        fault("heirs found;", 1, 6);
        fault(" ".repeat(300 - 4) + "size", 1, 300);
        fault(" ".repeat(300 - 6) + "size 1", 1, 300);
        fault("size 1 1" + " ".repeat(300 - 8), 1, 300);
        fault("9".repeat(300), 1, 0);
        fault("z".repeat(300), 1, 0);
    }

    private static void faultsOfKindTwo() {
        about("7, 8");
        fault("season 53 53 1;", 2, 7);
        fault("season 5 53 1;", 2, 9);
        fault("season 5 4 1;", 2, 9);
        fault("season 53", 2, 7);
        fault("size 0 1;", 2, 5);
        fault("size 5 1;", 2, 5);
        fault("size 5?", 2, 5);
        fault("early 53 1;", 2, 6);
        fault("early 9999 99999;", 2, 6);
        fault("size 1 1; early 1 1;\n season 0 9999 0", 2, 31);
    }

    private static void faultOfKindThree() {
        about("7, 8");
        String thirty = "size1 1;".repeat(30);
        fault(thirty + "size", 3, 240);
        fault(thirty + "  heirs", 3, 242);
        fault(thirty + "season?", 3, 240);
        fault(thirty + "sizes", 1, 240);
        fault(thirty + " ;", 1, 241);
        fault(thirty + "early 1 1;size 9 9;", 3, 240);
    }

    private static void worths() {
        about("9");
        WeekBank x = new WeekBank();
        x.flat(0, 2);
        x.flat(0, 4);
        is("worth(0, 5) without rules", x.worth(0, 5), 0);
        rules(x, "season 0 52 10; season 5 7 30; season 6 6 50; size 2 3; size 2 4;"
            + "early 10 100; early 3 200; early 20 7; early 20 0;");
        is("worth(2, 5)", x.worth(2, 5), -1);
        is("worth(-1, 5)", x.worth(-1, 5), -1);
        is("worth(0, -1)", x.worth(0, -1), -1);
        is("worth(0, 53)", x.worth(0, 53), -1);
        is("worth(0, 2)", x.worth(0, 2), 14);
        is("worth(0, 3)", x.worth(0, 3), 214);
        is("worth(0, 5)", x.worth(0, 5), 234);
        is("worth(0, 6)", x.worth(0, 6), 254);
        is("worth(1, 7)", x.worth(1, 7), 230);
        is("worth(1, 8)", x.worth(1, 8), 210);
        is("worth(1, 9)", x.worth(1, 9), 210);
        is("worth(1, 10)", x.worth(1, 10), 110);
        is("worth(1, 20)", x.worth(1, 20), 10);
        is("worth(1, 52)", x.worth(1, 52), 10);
        x.weeks(7);
        is("worth(0, 9), two ahead", x.worth(0, 9), 14);
        is("worth(0, 10), three ahead", x.worth(0, 10), 214);
        is("worth(0, 0), behind", x.worth(0, 0), 14);
        rules(x, "early 0 9;");
        is("early 0 now", x.worth(0, 7), 9);
        is("early 0 behind", x.worth(0, 6), 0);
        rules(x, "season 1 1 9999; size 2 9999; early 0 9999;");
        x.year();
        is("the greatest", x.worth(0, 1), 29997);
    }

    private static void gives() {
        about("10");
        WeekBank x = bank();
        is("give(-1, 0, 1)", x.give(-1, 0, 1), -1);
        is("give(4, 0, 1)", x.give(4, 0, 1), -1);
        is("give(0, 2, 1)", x.give(0, 2, 1), -1);
        is("give(0, 0, 53)", x.give(0, 0, 53), -1);
        is("give(0, 0, -1)", x.give(0, 0, -1), -1);
        is("not owned", x.give(1, 0, 1), -2);
        is("nobody's", x.give(1, 0, 0), -2);
        x.weeks(5);
        x.shut(0, 5, 6);
        is("not owned before all", x.give(1, 0, 5), -2);
        is("too late before shut", x.give(0, 0, 5), -3);
        is("behind", x.give(0, 0, 4), -3);
        is("shut", x.give(0, 0, 6), -4);
        is("give", x.give(0, 0, 7), 0);
        is("worth for good", x.of(0, 4), 10);
        rules(x, "");
        is("worth for good", x.of(0, 4), 10);
        is("given before", x.give(0, 0, 7), -5);
        x.bank(0);
        is("banked", x.give(0, 0, 7), -5);
        x.take(0, 0);
        is("taken", x.give(0, 0, 7), -5);
        x.shut(0, 7, 7);
        is("past and shut", x.give(0, 0, 7), -4);
        x.give(0, 1, 8);
        x.dies(0, 1, true);
        is("a dead one", x.give(0, 1, 8), -1);
        is("back, by the heir", x.give(1, 1, 8), 2);
        x.weeks(3);
        x.year();
        is("past in the year before", x.give(1, 1, 8), 3);
    }

    private static void giveRoom() {
        about("10");
        WeekBank x = bank();
        for (int week = 1; week <= 9; week++) {
            is("give", x.give(0, 0, week), week - 1);
        }
        is("nine wait", x.give(0, 1, 1), -6);
        is("given before nine wait", x.give(0, 0, 1), -5);
        x.bank(3);
        is("eight wait", x.give(0, 1, 1), 9);
        is("nine wait", x.give(0, 1, 2), -6);
        int came = 10;
        for (int year = 0; came < 200; year++) {
            x.year();
            for (int week = 1; week <= 9 && came < 200; week++) {
                is("give", x.give(0, 0, week), came++);
            }
        }
        is("200 came", x.give(1, 0, 11), -6);
        x.year();
        is("200 came, none waits", x.give(1, 0, 11), -6);
        is("count(4)", x.count(4), 200);
        is("the last", x.of(199, 5), 5);
        noSuch(x, 200, 0);
    }

    private static void wishes() {
        about("11");
        WeekBank x = bank();
        x.give(0, 0, 1);
        x.give(1, 1, 11);
        is("wish(2, ..)", x.wish(2, 0, 0, 52, 1), false);
        is("wish(-1, ..)", x.wish(-1, 0, 0, 52, 1), false);
        is("town -2", x.wish(0, -2, 0, 52, 1), false);
        is("town 4", x.wish(0, 4, 0, 52, 1), false);
        is("from -1", x.wish(0, 0, -1, 52, 1), false);
        is("to 53", x.wish(0, 0, 0, 53, 1), false);
        is("from above to", x.wish(0, 0, 2, 1, 1), false);
        is("size 0", x.wish(0, 0, 0, 52, 0), false);
        is("size 5", x.wish(0, 0, 0, 52, 5), false);
        is("any town", x.wish(0, -1, 11, 11, 3), true);
        is("any town", x.wish(1, -1, 0, 52, 1), true);
        is("a later one in its place", x.wish(1, 1, 0, 52, 1), true);
        is("rings(2)", x.rings(2), 0);
        is("a false one changes nothing", x.wish(1, 0, 0, 52, 5), false);
        is("rings(2)", x.rings(2), 0);
        is("week too early", x.wish(1, 0, 2, 52, 1), true);
        is("rings(2)", x.rings(2), 0);
        is("week too late", x.wish(1, 0, 0, 0, 1), true);
        is("rings(2)", x.rings(2), 0);
        is("flat too small", x.wish(1, 0, 1, 1, 2), true);
        is("rings(2)", x.rings(2), 0);
        is("just that", x.wish(1, 0, 1, 1, 1), true);
        is("rings(2)", x.rings(2), 2);
        is("swapped", x.wish(0, 0, 1, 1, 1), false);
        x.give(0, 0, 2);
        x.bank(2);
        is("banked", x.wish(2, 0, 1, 1, 1), false);
    }

    private static void rushWishes() {
        about("12");
        WeekBank x = bank();
        is("owner 4", x.rushWish(4, 0, 0, 52, 1), false);
        is("owner -1", x.rushWish(-1, 0, 0, 52, 1), false);
        is("town -2", x.rushWish(0, -2, 0, 52, 1), false);
        is("town 4", x.rushWish(0, 4, 0, 52, 1), false);
        is("from -1", x.rushWish(0, 0, -1, 52, 1), false);
        is("to 53", x.rushWish(0, 0, 0, 53, 1), false);
        is("from above to", x.rushWish(0, 0, 2, 1, 1), false);
        is("size 0", x.rushWish(0, 0, 0, 52, 0), false);
        is("size 5", x.rushWish(0, 0, 0, 52, 5), false);
        is("none yet", x.ownerOf(0, 5), 0);
        is("one", x.rushWish(0, 3, 52, 52, 4), true);
        is("one is there", x.ownerOf(0, 5), 1);
        is("it stays for the next year", x.year() + x.ownerOf(0, 5), 2);
        x.dies(0, 1, true);
        is("gone with the dead", x.ownerOf(0, 5), 0);
        is("a dead one", x.rushWish(0, 0, 0, 52, 1), false);
    }

    /** Of two pairs with the same gift the dearer, of like ones the first; more gifts before dearer ones. */
    private static void ringsChosen() {
        about("13");
        WeekBank x = bank();
        is("rings(1)", x.rings(1), -1);
        is("rings(10)", x.rings(10), -1);
        is("rings(-1)", x.rings(-1), -1);
        is("rings(9) of none", x.rings(9), 0);
        x.give(0, 0, 1);
        x.give(1, 0, 11);
        x.give(2, 0, 21);
        x.wish(0, 0, 11, 21, 1);
        x.wish(1, 0, 1, 1, 1);
        x.wish(2, 0, 1, 1, 1);
        is("the dearer pair", x.rings(2), 2);
        is("0 got 2", x.of(0, 6), 2);
        is("1 waits on", x.of(1, 5), 0);
        x = bank();
        x.give(0, 0, 1);
        x.give(1, 0, 11);
        x.give(1, 0, 12);
        x.wish(0, 0, 11, 12, 1);
        x.wish(1, 0, 1, 1, 1);
        x.wish(2, 0, 1, 1, 1);
        is("the first of like pairs", x.rings(9), 2);
        is("0 got 1", x.of(0, 6), 1);
        x = bank();
        x.give(3, 0, 31);
        x.give(3, 0, 32);
        x.give(0, 0, 1);
        x.give(0, 0, 2);
        x.give(0, 0, 3);
        x.wish(0, 0, 32, 32, 1);
        x.wish(1, 0, 1, 31, 1);
        x.wish(2, 0, 2, 2, 1);
        x.wish(3, 0, 3, 3, 1);
        x.wish(4, 0, 1, 1, 1);
        is("a ring of three needs three", x.rings(2), 2);
        is("three", x.rings(3), 3);
        is("2 got 3", x.of(2, 6), 3);
        is("4 got 2", x.of(4, 6), 2);
    }

    private static void ringsTold() {
        about("13");
        WeekBank x = bank();
        for (int week = 1; week <= 9; week++) {
            x.give(0, 0, week);
            x.wish(week - 1, -1, week % 9 + 1, week % 9 + 1, 1);
        }
        is("eight are too few", x.rings(8), 0);
        is("nine", x.rings(9), 9);
        is("0 got 1", x.of(0, 6), 1);
        is("8 got 0", x.of(8, 6), 0);
        is("all swapped", x.count(5), 0);
        x = bank();
        x.give(0, 0, 1);
        x.wish(0, -1, 0, 52, 1);
        is("none gets itself", x.rings(9), 0);
        x.give(1, 0, 11);
        is("one without a wish", x.rings(9), 0);
    }

    private static void banks() {
        about("14");
        WeekBank x = bank();
        x.give(0, 1, 1);
        x.give(0, 0, 2);
        is("bank(-1)", x.bank(-1), -1);
        is("bank(2)", x.bank(2), -1);
        is("bank(0)", x.bank(0), 15);
        is("bank(0) again", x.bank(0), -1);
        is("bank(1)", x.bank(1), 25);
        is("points", x.ownerOf(0, 0), 25);
        is("it is banked", x.of(1, 5), 2);
        is("count(6)", x.count(6), 2);
    }

    private static void takes() {
        about("15");
        WeekBank x = bank();
        x.give(0, 0, 1);
        x.give(1, 1, 11);
        x.give(1, 0, 12);
        x.bank(0);
        x.bank(1);
        is("take(4, 0)", x.take(4, 0), -1);
        is("take(-1, 0)", x.take(-1, 0), -1);
        is("take(0, 3)", x.take(0, 3), -1);
        is("one that waits", x.take(1, 2), -1);
        is("too few points", x.take(0, 1), -2);
        is("take", x.take(1, 0), 15);
        is("luck as before", x.ownerOf(1, 1), 0);
        is("taken", x.of(0, 5), 3);
        is("by 1", x.of(0, 7), 1);
        is("taken already", x.take(1, 0), -1);
        is("the giver keeps the points", x.ownerOf(0, 0), 10);
        x.bank(2);
        is("points for just that", x.take(1, 1), 10);
        x.dies(0, 1, true);
        is("a dead one", x.take(0, 2), -1);
        is("with the heritage", x.take(1, 2), 0);
    }

    private static void rushes() {
        about("16");
        WeekBank x = bank();
        x.give(0, 0, 1);
        x.give(1, 0, 11);
        x.give(1, 0, 12);
        x.give(2, 1, 21);
        x.give(3, 0, 31);
        is("nothing banked, none wishes", x.rush(), 0);
        for (int gift = 0; gift < 4; gift++) {
            x.bank(gift);
        }
        x.rushWish(1, 0, 1, 52, 1);
        x.rushWish(3, -1, 0, 52, 1);
        is("rush", x.rush(), 1);
        is("the dearest, the lesser", x.of(1, 7), 1);
        is("points", x.ownerOf(1, 0), 20);
        is("luck", x.ownerOf(1, 1), 20);
        is("the wish is gone", x.ownerOf(1, 5), 0);
        is("who finds none keeps it", x.ownerOf(3, 5), 1);
        is("taken", x.of(1, 5), 3);
        is("one that waits isn't there", x.of(4, 5), 0);
        x.bank(4);
        is("now 3 can", x.rush(), 1);
        is("the dearest", x.of(4, 7), 3);
        is("luck", x.ownerOf(3, 1), 40);
        rules(x, "");
        x.give(0, 0, 3);
        x.bank(5);
        x.rushWish(3, 0, 3, 3, 1);
        is("worth nothing, for nothing", x.rush(), 1);
        is("by 3", x.of(5, 7), 3);
    }

    /** The least luck first, of like ones the lesser; a place in the order isn't lost by luck of others. */
    private static void rushOrder() {
        about("16");
        WeekBank x = bank();
        for (int o = 0; o < 4; o++) {
            x.give(o, 0, 10 * o + 1);
            x.give(o, 0, 10 * o + 2);
            x.bank(2 * o);
            x.bank(2 * o + 1);
        }
        x.rushWish(1, 0, 11, 11, 1);
        is("1 has luck", x.rush(), 1);
        for (int o = 0; o < 4; o++) {
            x.rushWish(o, 0, 0, 12, 1);
        }
        is("three gifts there are left for four", x.rush(), 3);
        is("0, without luck, first", x.of(3, 7), 0);
        is("then 2", x.of(0, 7), 2);
        is("then 3", x.of(1, 7), 3);
        is("1 finds none", x.ownerOf(1, 5), 1);
    }

    private static void shuts() {
        about("17");
        WeekBank x = bank();
        is("shut(2, ..)", x.shut(2, 1, 1), -1);
        is("shut(-1, ..)", x.shut(-1, 1, 1), -1);
        is("from -1", x.shut(0, -1, 1), -1);
        is("to 53", x.shut(0, 1, 53), -1);
        is("from above to", x.shut(0, 2, 1), -1);
        x.give(0, 0, 5);
        x.give(0, 0, 6);
        x.give(1, 0, 11);
        x.give(1, 0, 12);
        x.give(1, 1, 12);
        x.bank(1);
        x.bank(2);
        x.take(1, 1);
        x.bank(3);
        is("points of 1", x.ownerOf(1, 0), 30);
        is("shut", x.shut(0, 5, 12), 4);
        is("it waited", x.of(0, 5), 4);
        is("it was taken", x.of(1, 5), 5);
        is("it was banked", x.of(2, 5), 4);
        is("another flat", x.of(4, 5), 0);
        is("points: 10 more, then twice 20 less, not below 0", x.ownerOf(1, 0), 0);
        is("the giver's", x.ownerOf(0, 0), 10);
        is("who got it", x.of(1, 7), -1);
        is("again", x.shut(0, 5, 12), 0);
        is("shut", x.give(0, 0, 7), -4);
        is("not shut", x.give(0, 0, 4), 5);
        is("not shut", x.give(1, 0, 13), 6);
        x.weeks(3);
        is("before now", x.shut(0, 2, 12), -1);
        is("now", x.shut(0, 3, 4), 1);
        x.year();
        is("not shut in the next year", x.give(0, 0, 6), 7);
        is("those of this year alone", x.shut(0, 0, 52), 1);
        x.year();
        x.give(0, 0, 1);
        x.give(0, 0, 2);
        x.wish(8, -1, 2, 2, 1);
        x.wish(9, -1, 1, 1, 1);
        x.rings(2);
        x.weeks(1);
        is("a swapped one of now", x.shut(0, 1, 1), 1);
        is("worth to whom that got it", x.ownerOf(0, 0), 20);
        is("the other stays swapped", x.of(9, 6), 8);
        is("a past one got none", x.of(8, 6), -1);
        x.year();
        is("swapped ones of the year before stay", x.shut(0, 0, 52), 0);
    }

    private static void shutsAfterDeath() {
        about("17");
        WeekBank x = bank();
        x.give(0, 0, 1);
        x.give(0, 0, 2);
        x.give(0, 0, 3);
        x.bank(0);
        x.bank(1);
        x.bank(2);
        x.take(0, 0);
        x.dies(0, 1, true);
        is("points of the heir", x.ownerOf(1, 0), 20);
        is("shut", x.shut(0, 1, 2), 2);
        is("the dead one has 10 more, then 10 less", x.ownerOf(0, 0), 0);
        is("the heir as before", x.ownerOf(1, 0), 20);
        is("shut", x.shut(0, 3, 3), 1);
        is("not below 0", x.ownerOf(0, 0), 0);
        x.give(2, 0, 21);
        x.bank(3);
        x.take(2, 3);
        x.dies(2, 3, false);
        is("a dead one is party", x.party(0, 21), 2);
        x.shut(0, 21, 21);
        is("a dead one, too", x.ownerOf(2, 0), 30);
        is("in all points", x.count(9), 50);
        is("nobody's then", x.party(0, 21), -1);
    }

    private static void weeksGo() {
        about("18");
        WeekBank x = bank();
        is("weeks(0)", x.weeks(0), -1);
        is("weeks(-1)", x.weeks(-1), -1);
        is("weeks(53)", x.weeks(53), -1);
        is("weeks(max)", x.weeks(Integer.MAX_VALUE), -1);
        is("weeks(1)", x.weeks(1), 1);
        x.give(0, 0, 4);
        x.give(0, 0, 5);
        x.give(0, 0, 6);
        x.give(0, 1, 5);
        x.give(0, 1, 4);
        x.bank(3);
        x.bank(4);
        x.take(0, 4);
        is("weeks(4)", x.weeks(4), 5);
        is("4 waited", x.of(0, 5), 5);
        is("5 waited", x.of(1, 5), 5);
        is("6 waits on", x.of(2, 5), 0);
        is("5 was banked", x.of(3, 5), 5);
        is("4 was taken", x.of(4, 5), 3);
        is("points stay", x.ownerOf(0, 0), 15);
        is("weeks(48)", x.weeks(48), -1);
        is("weeks(47)", x.weeks(47), 52);
        is("weeks(1)", x.weeks(1), -1);
        is("count(3)", x.count(3), 52);
    }

    private static void yearsGo() {
        about("19");
        WeekBank x = bank();
        x.give(0, 0, 4);
        x.give(0, 0, 5);
        x.give(0, 0, 6);
        x.give(0, 0, 7);
        x.wish(2, 0, 7, 7, 1);
        x.wish(3, 0, 6, 6, 1);
        x.rings(2);
        x.bank(0);
        x.weeks(3);
        x.shut(1, 10, 20);
        is("year()", x.year(), 1);
        is("count(2)", x.count(2), 1);
        is("count(3)", x.count(3), 0);
        is("banked", x.of(0, 5), 5);
        is("waited", x.of(1, 5), 5);
        is("swapped", x.of(2, 5), 1);
        is("it got", x.of(2, 6), 3);
        is("party", x.party(0, 6), 0);
        is("no points lost", x.ownerOf(0, 0), 10);
        is("not shut", x.give(1, 1, 11), 4);
        is("of the year", x.of(4, 3), 1);
        is("of the year before", x.of(3, 3), 0);
        is("as if new", x.give(0, 0, 4), 5);
        is("year()", x.year(), 2);
    }

    private static void deaths() {
        about("20");
        WeekBank x = bank();
        x.give(0, 0, 1);
        x.give(0, 0, 2);
        x.give(1, 0, 11);
        x.bank(1);
        is("dies(4, 0)", x.dies(4, 0, true), -1);
        is("dies(0, 4)", x.dies(0, 4, true), -1);
        is("dies(0, -1)", x.dies(0, -1, true), -1);
        is("dies(0, 0)", x.dies(0, 0, true), -1);
        is("dies(0, 1)", x.dies(0, 1, true), 18);
        is("dead", x.ownerOf(0, 4), 1);
        is("weeks", x.ownerOf(1, 3), 36);
        is("points", x.ownerOf(1, 0), 10);
        is("no points", x.ownerOf(0, 0), 0);
        is("back", x.of(0, 5), 4);
        is("banked on", x.of(1, 5), 2);
        is("of another", x.of(2, 5), 0);
        is("its owner is who gave it", x.of(1, 0), 0);
        is("dead already", x.dies(0, 1, true), -1);
        is("a dead heir", x.dies(1, 0, true), -1);
        is("an heir who says no", x.dies(1, 2, false), 0);
        is("no weeks", x.ownerOf(2, 3), 18);
        is("nobody's", x.party(0, 1), -1);
        is("points lost", x.count(9), 0);
        is("the heir's", x.ownerOf(2, 0), 0);
    }

    private static void boundHeirs() {
        about("20");
        WeekBank x = bank();
        rules(x, "season 0 52 7; heirs bound;");
        x.give(0, 0, 1);
        x.bank(0);
        is("bound, though no is said", x.dies(0, 3, false), 18);
        is("points", x.ownerOf(3, 0), 7);
        rules(x, "heirs free;");
        is("free again", x.dies(3, 1, false), 0);
        is("points are lost", x.count(9), 0);
    }

    private static void feesReckoned() {
        about("21");
        WeekBank x = new WeekBank();
        is("no weeks", x.fees(1, 0), 0);
        x.flat(0, 1);
        int[] limits = {10, 20, 30, 9999};
        for (int o = 0; o < 4; o++) {
            x.owner(limits[o]);
            x.own(0, o, o);
        }
        is("cost 0", x.fees(0, 0), -1);
        is("cost 1000000", x.fees(1000000, 0), -1);
        is("what -1", x.fees(5, -1), -1);
        is("what 3", x.fees(5, 3), -1);
        is("40: it holds at once", x.fees(40, 0), 10);
        is("40: rounds", x.fees(40, 1), 0);
        is("40: stay", x.fees(40, 2), 4);
        is("41: up to 11, 14", x.fees(41, 0), 14);
        is("41: rounds", x.fees(41, 1), 1);
        is("41: stay", x.fees(41, 2), 3);
        is("61: 16, 21, 31, 61", x.fees(61, 0), 61);
        is("61: rounds", x.fees(61, 1), 3);
        is("61: stay", x.fees(61, 2), 1);
        is("9999", x.fees(9999, 0), 9999);
        is("9999: rounds", x.fees(9999, 1), 1);
        is("10000: breaks", x.fees(10000, 0), 0);
        is("10000: rounds", x.fees(10000, 1), 2);
        is("10000: stay", x.fees(10000, 2), 0);
        is("999999: breaks", x.fees(999999, 1), 1);
        is("nobody left in truth", x.ownerOf(0, 3), 1);
        x.own(0, 10, 0);
        is("cost by weeks", x.fees(41, 0), 9);
        is("the least", x.fees(1, 0), 1);
        x = new WeekBank();
        x.flat(0, 1);
        int[] oneByOne = {99, 111, 124, 142, 166, 199, 249, 333, 499, 999};
        for (int o = 0; o < 10; o++) {
            x.owner(oneByOne[o]);
            x.own(0, o, o);
        }
        is("ten leave, one by one", x.fees(1000, 1), 10);
        is("and it breaks", x.fees(1000, 0), 0);
        is("just one leaves", x.fees(999, 0), 111);
        is("in one round", x.fees(999, 1), 1);
    }

    private static void feesOfTheWeekless() {
        about("21");
        WeekBank x = new WeekBank();
        x.flat(0, 1);
        x.owner(100);
        x.owner(5);
        x.owner(500);
        x.own(0, 1, 0);
        is("such as own a week", x.fees(3, 2), 1);
        is("one without weeks leaves, too", x.fees(50, 1), 1);
        is("the fee is as before", x.fees(50, 0), 50);
        is("who stays without weeks doesn't count", x.fees(200, 2), 0);
        x.dies(1, 0, true);
        is("a dead one doesn't leave", x.fees(50, 1), 0);
    }

    private static void parties() {
        about("22");
        WeekBank x = bank();
        is("party(2, 1)", x.party(2, 1), -1);
        is("party(-1, 1)", x.party(-1, 1), -1);
        is("party(0, 53)", x.party(0, 53), -1);
        is("party(0, -1)", x.party(0, -1), -1);
        is("nobody", x.party(0, 0), -1);
        is("its owner", x.party(0, 11), 1);
        x.give(1, 0, 11);
        is("waits", x.party(0, 11), -2);
        is("the same week of another flat", x.party(1, 11), 1);
        x.bank(0);
        is("banked", x.party(0, 11), -2);
        x.give(2, 0, 21);
        x.bank(1);
        x.take(2, 0);
        is("taken", x.party(0, 11), 2);
        x.weeks(22);
        is("past", x.party(0, 21), 2);
        is("taken on", x.party(0, 11), 2);
        x.give(3, 0, 31);
        x.give(2, 0, 29);
        x.wish(2, -1, 29, 29, 1);
        x.wish(3, -1, 31, 31, 1);
        x.rings(2);
        is("swapped", x.party(0, 31), 2);
        is("swapped", x.party(0, 29), 3);
        x.give(3, 0, 32);
        x.dies(3, 1, true);
        is("back, of the heir", x.party(0, 32), 1);
        is("got by the dead one", x.party(0, 29), 3);
        is("given by the dead one", x.party(0, 31), 2);
    }

    private static void giftsTold() {
        about("23");
        WeekBank x = bank();
        x.year();
        x.give(1, 1, 11);
        noSuch(x, -1, 0);
        noSuch(x, 1, 0);
        noSuch(x, 0, -1);
        noSuch(x, 0, 8);
        int[] due = {1, 1, 11, 1, 25, 0, -1, -1};
        for (int what = 0; what < 8; what++) {
            is("of(0, " + what + ")", x.of(0, what), due[what]);
        }
        x.give(2, 0, 22);
        x.wish(0, -1, 22, 22, 1);
        x.wish(1, -1, 11, 11, 1);
        x.rings(2);
        is("swapped", x.of(0, 5), 1);
        is("got", x.of(0, 6), 1);
        is("by", x.of(0, 7), 2);
        x.give(1, 0, 12);
        x.bank(2);
        is("banked", x.of(2, 5), 2);
        is("by none", x.of(2, 7), -1);
        x.take(1, 2);
        is("taken", x.of(2, 5), 3);
        is("got none", x.of(2, 6), -1);
        is("by", x.of(2, 7), 1);
        x.shut(0, 12, 12);
        is("past", x.of(2, 5), 5);
        is("by none", x.of(2, 7), -1);
    }

    private static void ownersTold() {
        about("24");
        WeekBank x = bank();
        is("ownerOf(4, 0)", x.ownerOf(4, 0), -1);
        is("ownerOf(-1, 0)", x.ownerOf(-1, 0), -1);
        is("ownerOf(0, 6)", x.ownerOf(0, 6), -1);
        is("ownerOf(0, -1)", x.ownerOf(0, -1), -1);
        x.give(2, 0, 21);
        x.bank(0);
        x.rushWish(2, 0, 21, 21, 1);
        int[] before = {30, 0, 300, 18, 0, 1};
        for (int what = 0; what < 6; what++) {
            is("ownerOf(2, " + what + ")", x.ownerOf(2, what), before[what]);
        }
        x.rush();
        x.dies(2, 0, true);
        int[] after = {0, 30, 300, 0, 1, 0};
        for (int what = 0; what < 6; what++) {
            is("ownerOf(2, " + what + "), dead", x.ownerOf(2, what), after[what]);
        }
    }

    private static void counts() {
        about("25");
        WeekBank x = bank();
        rules(x, "heirs bound; season 0 52 3;");
        x.year();
        x.weeks(2);
        x.give(0, 0, 4);
        x.give(0, 0, 5);
        x.give(1, 0, 11);
        x.bank(0);
        x.feed(0, 0, 0, 0, 0);
        int[] due = {2, 4, 1, 2, 3, 2, 1, 20, 1, 3};
        for (int what = 0; what < 10; what++) {
            is("count(" + what + ")", x.count(what), due[what]);
        }
        is("count(10)", x.count(10), -1);
        is("count(-1)", x.count(-1), -1);
        x.dies(1, 0, true);
        is("the dead are counted", x.count(1), 4);
        x.year();
        is("none waits", x.count(5), 0);
        is("none is banked", x.count(6), 0);
    }
}
