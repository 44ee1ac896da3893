/** The sentences on the TAPE, RULES, FAULTS and WORTH that name a boundary case, one by one. */
public final class RulesBoundariesTest extends Checks {
    public static void main(String[] args) {
        emptyTape();
        fullTape();
        highestByteFirst();
        bytesBehindACut();
        firstBytesAlone();
        tapeIsEmptyThen();
        longestText();
        blanksAreTwo();
        signBehindAStatement();
        signInANumber();
        wordsAsManyLettersAsStandTogether();
        numbersOfOneToFourDigits();
        theEndOfEachStatement();
        tokensOutOfTurn();
        weeksOfSeason();
        sizesOfSize();
        weeksAheadOfEarly();
        whatIsWorthHasNoOtherLimit();
        firstFaultFromTheLeft();
        ofOnePlaceTheLeast();
        thirtyStatements();
        thirtyFirstStatement();
        aFaultChangesNothing();
        placeOfTheLatest();
        theLastHolds();
        nothingIsWorthAnything();
        seasonFromWeekToWeek();
        earlyNotAbove();
        worthOfNoSuch();
        rulesInPlaceOfThoseBefore();
        finish("all boundaries of the rules hold");
    }

    private static void emptyTape() {
        about("1: an empty TAPE");
        WeekBank x = new WeekBank();
        is("count(7)", x.count(7), 0);
        is("end(0)", x.end(0), 0);
        is("end(1)", x.end(1), -1);
        is("rules()", x.rules(), 0);
        is("place()", x.place(), -1);
    }

    private static void fullTape() {
        about("5: NONE if these would be more than 300");
        WeekBank x = new WeekBank();
        for (int i = 1; i <= 15; i++) {
            is("feed", x.feed(0x20202020, 0x20202020, 0x20202020, 0x20202020, 0x20202020), 20 * i);
        }
        is("a sixteenth", x.feed(0, 0, 0, 0, 0), -1);
        for (int length = 300; length > 280; length--) {
            is("end", x.end(length), length);
            is("feed behind " + length, x.feed(0, 0, 0, 0, 0), -1);
            is("count(7)", x.count(7), length);
        }
        is("end(280)", x.end(280), 280);
        is("feed behind 280", x.feed(0x20202020, 0x20202020, 0x20202020, 0x20202020, 0x20202020), 300);
        is("300 blanks, no byte of the refused ones", x.rules(), 0);
    }

    private static void highestByteFirst() {
        about("5: of each number the highest first");
        WeekBank x = new WeekBank();
        is("feed", x.feed(0x68656972, 0x73206672, 0x65653b68, 0x65697273, 0x20202020), 20);
        is("feed", x.feed(0x626f756e, 0x643b2020, 0x20202020, 0x20202020, 0x20202020), 40);
        is("rules of 'heirs free;heirs    bound;'", x.rules(), 2);
        is("bound", x.count(8), 1);
        int[] shifts = {24, 16, 8, 0};
        for (int i = 0; i < 20; i++) {
            int[] n = {0x20202020, 0x20202020, 0x20202020, 0x20202020, 0x20202020};
            n[i / 4] |= 0x80 << shifts[i % 4];
            x = new WeekBank();
            x.feed(n[0], n[1], n[2], n[3], n[4]);
            is("rules with byte " + i + " odd", x.rules(), -2);
            is("its place", x.place(), i);
        }
    }

    private static void bytesBehindACut() {
        about("6: the TAPE has its first n bytes alone");
        WeekBank x = new WeekBank();
        x.feed(0x68656972, 0x73206672, 0x65653b3f, 0x3f3f3f3f, 0x3f3f3f3f);
        is("end(11)", x.end(11), 11);
        is("feed", x.feed(0x68656972, 0x7320626f, 0x756e643b, 0x20202020, 0x20202020), 31);
        is("rules of 'heirs free;heirs bound;'", x.rules(), 2);
        is("bound", x.count(8), 1);
        x.feed(0x73697a65, 0x20312031, 0x3b3b2020, 0x20202020, 0x20202020);
        is("end(9)", x.end(9), 9);
        is("rules of 'size 1 1;'", x.rules(), 1);
    }

    private static void firstBytesAlone() {
        about("6: NONE if it has less, or n is below 0");
        WeekBank x = new WeekBank();
        x.feed(0x20202020, 0x20202020, 0x20202020, 0x20202020, 0x20202020);
        int[] refused = {21, 22, 300, 301, -1, -2, -20, Integer.MAX_VALUE, Integer.MIN_VALUE};
        for (int n : refused) {
            is("end(" + n + ")", x.end(n), -1);
            is("count(7)", x.count(7), 20);
        }
        is("as many as it has", x.end(20), 20);
        is("one less", x.end(19), 19);
        is("one more than it has", x.end(20), -1);
        is("none", x.end(0), 0);
        is("none again", x.end(0), 0);
        is("below 0", x.end(-1), -1);
    }

    private static void tapeIsEmptyThen() {
        about("7: the TAPE (empty then)");
        String[] texts = {"size 1 1;", "?", "size 9 1;", "size1 1;".repeat(31)};
        for (String text : texts) {
            WeekBank x = new WeekBank();
            rules(x, text);
            is("count(7)", x.count(7), 0);
            is("end(1)", x.end(1), -1);
            is("rules() of what is left", x.rules(), 0);
            is("feed", x.feed(0, 0, 0, 0, 0), 20);
        }
    }

    private static void longestText() {
        about("Terms: a TEXT of at most 300 bytes");
        String last = "season 0 52 9999;";
        good(" ".repeat(300 - last.length()) + last, 1);
        good(last + "\n".repeat(300 - last.length()), 1);
        good("size1 00;".repeat(30) + " ".repeat(30), 30);
        fault(" ".repeat(300 - 16) + "season 0 52 9999", 1, 300);
        fault(" ".repeat(299) + "?", 1, 299);
        fault(" ".repeat(299) + "s", 1, 299);
        fault(" ".repeat(293) + "size 5;", 2, 298);
        fault("s".repeat(300), 1, 0);
        fault("size " + "1".repeat(295), 1, 5);
    }

    private static void blanksAreTwo() {
        about("Terms: blanks (32, 10)");
        for (int sign = 0; sign < 256; sign++) {
            char c = (char) sign;
            if (sign == 32 || sign == 10) {
                good(c + "size 1 1;", 1);
                good("size" + c + "1 1;", 1);
                good("size 1" + c + "1;", 1);
                good("size 1 1" + c + ";", 1);
                good("size 1 1;" + c, 1);
            } else {
                fault(c + "size 1 1;", 1, 0);
            }
        }
        good("\n\n size \n 1\n \n1 ;\n heirs\nfree\n;\n", 2);
        good("size1 1;early0 0;heirs free;season0 0 0;", 4);
    }

    private static boolean isLetter(int sign) {
        return sign >= 97 && sign <= 122;
    }

    private static boolean isDigit(int sign) {
        return sign >= 48 && sign <= 57;
    }

    private static void signBehindAStatement() {
        about("Terms: FAULT 1 a byte or TOKEN with which no TEXT goes on");
        for (int sign = 0; sign < 256; sign++) {
            char c = (char) sign;
            if (sign == 32 || sign == 10) {
                continue;
            }
            fault("size 1 1;" + c, 1, 9);
            if (isLetter(sign)) {
                fault("size" + c + "1 1;", 1, 0);
            } else if (!isDigit(sign)) {
                fault("size" + c + "1 1;", 1, 4);
            }
        }
        fault("size21 1;", 2, 4);
        good("size01 1;", 1);
    }

    private static void signInANumber() {
        about("Terms: TOKENS are WORDS, NUMBERS, the SIGN ;");
        for (int sign = 0; sign < 256; sign++) {
            char c = (char) sign;
            if (isDigit(sign)) {
                good("size 1 1" + c + "1;", 1);
            } else {
                int place = sign == 32 || sign == 10 || sign == 59 ? 9 : 8;
                fault("size 1 1" + c + "1;", 1, place);
            }
        }
    }

    private static void wordsAsManyLettersAsStandTogether() {
        about("Terms: WORDS (small letters, as many as stand together)");
        fault("seasonsize 1 1;", 1, 0);
        fault("heirsbound;", 1, 0);
        fault("heirsfree;", 1, 0);
        fault("heirs boundbound;", 1, 6);
        fault("heirs freee;", 1, 6);
        fault("heirs fre e;", 1, 6);
        fault("heirs fre", 1, 6);
        fault("heirs f", 1, 6);
        fault("si ze 1 1;", 1, 0);
        fault("seaso 1 2 3;", 1, 0);
        fault("seasons 1 2 3;", 1, 0);
        fault("earl 1 2;", 1, 0);
        fault("earlyy 1 2;", 1, 0);
        fault("heir free;", 1, 0);
        fault("bound;", 1, 0);
        fault("free;", 1, 0);
        fault("SIZE 1 1;", 1, 0);
        fault("sizE 1 1;", 1, 0);
        fault("heirs Bound;", 1, 6);
        fault("heirs bounD;", 1, 6);
        fault("size 1 1x;", 1, 8);
        good("heirs free;size1 1;", 2);
        String[] words = {"season", "size", "early", "heirs"};
        for (String word : words) {
            for (int cut = 1; cut < word.length(); cut++) {
                fault(word.substring(0, cut), 1, 0);
            }
            for (int at = 0; at < word.length(); at++) {
                String other = word.substring(0, at) + "q" + word.substring(at + 1);
                fault(other + " 1 1 1;", 1, 0);
            }
        }
    }

    private static void numbersOfOneToFourDigits() {
        about("Terms: NUMBERS have 1 to 4 digits (a longer NUMBER at its first byte)");
        String[] good = {"1", "01", "001", "0001"};
        for (String one : good) {
            good("season " + one + " " + one + " " + one + ";", 1);
            good("size " + one + " " + one + ";", 1);
            good("early " + one + " " + one + ";", 1);
        }
        String[] longer = {"00001", "10000", "12345", "000000", "99999999999", "4294967297"};
        for (String one : longer) {
            fault("season " + one + " 1 1;", 1, 7);
            fault("season 1 " + one + " 1;", 1, 9);
            fault("season 1 1 " + one + ";", 1, 11);
            fault("season 1 1 1 " + one + ";", 1, 13);
            fault("size " + one + " 1;", 1, 5);
            fault("size 1 " + one + ";", 1, 7);
            fault("early " + one + " 1;", 1, 6);
            fault("early 1 " + one, 1, 8);
            fault("heirs " + one + ";", 1, 6);
            fault(one, 1, 0);
        }
        good("size 1 9999;", 1);
        good("size 1 0000;", 1);
    }

    private static void theEndOfEachStatement() {
        about("Terms: FAULT 1 the end: at how many bytes there are");
        String[] whole = {"season 1 2 3;", "size 1 2;", "early 1 2;", "heirs bound;", "heirs free;"};
        for (String text : whole) {
            good(text, 1);
            int word = text.indexOf(' ');
            for (int length = word; length < text.length(); length++) {
                String cut = text.substring(0, length);
                if (cut.startsWith("heirs ") && length > 6 && length < text.length() - 1) {
                    fault(cut, 1, 6);
                } else {
                    fault(cut, 1, length);
                    fault(cut + " \n ", 1, length + 3);
                    fault("size 1 1;" + cut, 1, 9 + length);
                }
            }
        }
    }

    private static void tokensOutOfTurn() {
        about("Terms: the order of TOKENS in a statement");
        fault("season;", 1, 6);
        fault("season 1;", 1, 8);
        fault("season 1 2;", 1, 10);
        fault("season 1 2 3 4;", 1, 13);
        fault("season x 2 3;", 1, 7);
        fault("season 1 x 3;", 1, 9);
        fault("season 1 2 x;", 1, 11);
        fault("size;", 1, 4);
        fault("size 1;", 1, 6);
        fault("size 1 2 3;", 1, 9);
        fault("early;", 1, 5);
        fault("early 1;", 1, 7);
        fault("early 1 2 3;", 1, 10);
        fault("heirs;", 1, 5);
        fault("heirs 0;", 1, 6);
        fault("heirs size;", 1, 6);
        fault("heirs free free;", 1, 11);
        fault("heirs free 1;", 1, 11);
        fault(";", 1, 0);
        fault("size 1 1;;", 1, 9);
        fault("7 size 1 1;", 1, 0);
    }

    private static void weeksOfSeason() {
        about("Terms: FAULT 2 a WEEK above 52, in season a second one below the first");
        good("season 0 0 1;", 1);
        good("season 0 52 1;", 1);
        good("season 52 52 1;", 1);
        good("season 0052 0052 1;", 1);
        fault("season 53 53 1;", 2, 7);
        fault("season 53 0 1;", 2, 7);
        fault("season 9999 1 1;", 2, 7);
        fault("season 0 53 1;", 2, 9);
        fault("season 0 9999 1;", 2, 9);
        fault("season 1 0 1;", 2, 9);
        fault("season 52 51 1;", 2, 10);
        fault("season 52 0 1;", 2, 10);
        fault("season 20 19", 2, 10);
    }

    private static void sizesOfSize() {
        about("Terms: FAULT 2 a SIZE that isn't 1 to 4");
        for (int size = 1; size <= 4; size++) {
            good("size " + size + " 0;", 1);
        }
        fault("size 0 0;", 2, 5);
        fault("size 5 0;", 2, 5);
        fault("size 0000 0;", 2, 5);
        fault("size 10 0;", 2, 5);
        fault("size 9999 0;", 2, 5);
    }

    private static void weeksAheadOfEarly() {
        about("Terms: FAULT 2 above 52 WEEKS ahead");
        good("early 0 0;", 1);
        good("early 52 0;", 1);
        fault("early 53 0;", 2, 6);
        fault("early 9999 0;", 2, 6);
    }

    private static void whatIsWorthHasNoOtherLimit() {
        about("Terms: what it is worth, what it adds: NUMBERS of 1 to 4 digits");
        WeekBank x = new WeekBank();
        x.flat(0, 4);
        is("rules", rules(x, "season 0 52 9999; size 4 9999; early 0 9999;"), 3);
        is("worth", x.worth(0, 0), 29997);
        is("worth", x.worth(0, 52), 29997);
        is("rules", rules(x, "season 0 52 0; size 4 0; early 0 0;"), 3);
        is("worth", x.worth(0, 52), 0);
    }

    private static void firstFaultFromTheLeft() {
        about("Terms: FAULTS, the first from the left");
        fault("size 5 ?", 2, 5);
        fault("size 5", 2, 5);
        fault("size 5 12345;", 2, 5);
        fault("season 53?", 2, 7);
        fault("size 1 ? size 5", 1, 7);
        fault("size x 5; size 9 9;", 1, 5);
        fault("early 53 ; x", 2, 6);
        fault("size 1 1; size 6 1; x", 2, 15);
        fault("x size 6 1;", 1, 0);
        fault("season 53 99999 x", 2, 7);
    }

    private static void ofOnePlaceTheLeast() {
        about("Terms: FAULTS, of one place the least");
        fault("size 55555 1;", 1, 5);
        fault("season 99999 1 1;", 1, 7);
        fault("early 00053 1;", 1, 6);
        fault("size1 1;".repeat(30) + "sizes1 1;", 1, 240);
    }

    private static void thirtyStatements() {
        about("Terms: FAULT 3 as a 31st statement begins");
        String[] one = {"size1 1;", "early0 1;", "heirs\nfree;"};
        for (String text : one) {
            for (int n = 1; n <= 24; n++) {
                good(text.repeat(n), n);
            }
        }
        for (int n = 25; n <= 30; n++) {
            good("size1 1;".repeat(n), n);
            good("size1 1;".repeat(n) + " \n", n);
        }
    }

    private static void thirtyFirstStatement() {
        about("Terms: FAULT 3 at its first WORD, if that may stand there");
        String thirty = "size1 1;".repeat(30);
        String[] words = {"season", "size", "early", "heirs"};
        for (String word : words) {
            fault(thirty + word, 3, 240);
            fault(thirty + " \n" + word, 3, 242);
            fault(thirty + word + "?", 3, 240);
            fault(thirty + word + " 99 99 99;", 3, 240);
            fault(thirty + word.substring(1), 1, 240);
            fault(thirty + word + "s", 1, 240);
        }
        fault(thirty + "bound;", 1, 240);
        fault(thirty + "1", 1, 240);
        fault(thirty + ";", 1, 240);
        fault(thirty + "?", 1, 240);
        String twentyNine = "size1 1;".repeat(29);
        fault(twentyNine + "size9 1;size1 1;", 2, 236);
        fault(twentyNine + "size1 1 size1 1;", 1, 240);
        fault("size1 1;".repeat(37), 3, 240);
    }

    private static void aFaultChangesNothing() {
        about("Terms: a TEXT with a FAULT changes nothing");
        String all = "heirs free;season0 52 1;size1 1;early0 1;";
        String[] faults = {all + "?", all + "size9 1;", all + "size1 1;".repeat(27), all + "size1 1", all + "12345"};
        int[] answers = {-2, -3, -4, -2, -2};
        for (int i = 0; i < faults.length; i++) {
            WeekBank x = new WeekBank();
            x.flat(0, 1);
            rules(x, "heirs bound; season 5 6 100; size 1 20; early 6 3;");
            is("rules", rules(x, faults[i]), answers[i]);
            is("heirs", x.count(8), 1);
            is("a week without season", x.worth(0, 4), 20);
            is("season", x.worth(0, 5), 120);
            is("season and early", x.worth(0, 6), 123);
            is("early", x.worth(0, 52), 23);
        }
        WeekBank x = new WeekBank();
        x.flat(0, 1);
        is("rules", rules(x, "season 0 52 5; heirs bound"), -2);
        is("worth, none told", x.worth(0, 1), 0);
        is("heirs, none told", x.count(8), 0);
        is("rules", rules(x, "size 1 3;"), 1);
        is("nothing of the faulty ones", x.worth(0, 1), 3);
    }

    private static void placeOfTheLatest() {
        about("8: the place of the FAULT of the latest rules(); NONE without one");
        WeekBank x = new WeekBank();
        is("before any", x.place(), -1);
        rules(x, "size 7 7;");
        is("place", x.place(), 5);
        is("again", x.place(), 5);
        tape(x, "heirs x;");
        is("a TAPE that isn't read yet", x.place(), 5);
        x.rules();
        is("the latest", x.place(), 6);
        x.rules();
        is("none", x.place(), -1);
        rules(x, "?");
        is("at the first byte", x.place(), 0);
        rules(x, "size 1 1;");
        is("none", x.place(), -1);
    }

    private static void theLastHolds() {
        about("Terms: of several that tell of one the last holds");
        WeekBank x = new WeekBank();
        x.flat(0, 1);
        x.flat(0, 2);
        rules(x, "season 3 8 7;season 5 6 9;season 6 7 1;size 1 10;size 1 20;size 2 40;early 9 300;early 9 100;");
        int[] due = {20, 20, 20, 27, 27, 29, 21, 21, 27, 120, 120};
        for (int week = 0; week < due.length; week++) {
            is("worth of " + week, x.worth(0, week), due[week]);
        }
        is("another SIZE", x.worth(1, 3), 47);
        rules(x, "season 5 5 9; season 5 5 0;");
        is("0 as the last", x.worth(0, 5), 0);
        rules(x, "early 5 9; early 5 0; early 2 8;");
        is("0 as the last of 5 ahead", x.worth(0, 5), 0);
        is("8 for 4 ahead", x.worth(0, 4), 8);
        rules(x, "heirs free; heirs bound;");
        is("bound as the last", x.count(8), 1);
        rules(x, "heirs bound; heirs bound; heirs free;");
        is("free as the last", x.count(8), 0);
    }

    private static void nothingIsWorthAnything() {
        about("Terms: at first there are none: nothing is worth anything");
        WeekBank x = new WeekBank();
        x.flat(0, 1);
        x.flat(3, 4);
        x.owner(1);
        x.own(1, 52, 0);
        for (int week = 0; week <= 52; week++) {
            is("worth", x.worth(0, week), 0);
            is("worth", x.worth(1, week), 0);
        }
        is("heirs are free", x.count(8), 0);
        is("give", x.give(0, 1, 52), 0);
        is("its worth", x.of(0, 4), 0);
        is("bank", x.bank(0), 0);
        is("take", x.take(0, 0), 0);
    }

    private static void seasonFromWeekToWeek() {
        about("Terms: season: from a WEEK to a WEEK; 0 without one");
        WeekBank x = new WeekBank();
        x.flat(0, 1);
        rules(x, "season 0 0 5; season 10 12 6; season 52 52 7; size 2 100;");
        for (int week = 0; week <= 52; week++) {
            int due = week == 0 ? 5 : week >= 10 && week <= 12 ? 6 : week == 52 ? 7 : 0;
            is("worth of " + week, x.worth(0, week), due);
        }
    }

    private static void earlyNotAbove() {
        about("Terms: early: the greatest number of WEEKS ahead told that isn't above WEEK less NOW (0 without one)");
        WeekBank x = new WeekBank();
        x.flat(0, 1);
        rules(x, "early 2 1; early 52 9; early 20 4; early 5 7;");
        int[] now = {0, 1, 30, 50, 52};
        for (int i = 0; i < now.length; i++) {
            if (i > 0) {
                x.weeks(now[i] - now[i - 1]);
            }
            for (int week = 0; week <= 52; week++) {
                int ahead = week - now[i];
                int due = ahead >= 52 ? 9 : ahead >= 20 ? 4 : ahead >= 5 ? 7 : ahead >= 2 ? 1 : 0;
                is("worth of " + week + " at " + now[i], x.worth(0, week), due);
            }
        }
        rules(x, "early 0 3;");
        is("NOW itself", x.worth(0, 52), 3);
        is("one before NOW", x.worth(0, 51), 0);
        x.year();
        is("as a YEAR begins", x.worth(0, 0), 3);
    }

    private static void worthOfNoSuch() {
        about("9: NONE: no such FLAT, WEEK");
        WeekBank x = new WeekBank();
        is("no FLAT yet", x.worth(0, 0), -1);
        x.flat(0, 1);
        int[] flats = {-1, 1, 6, Integer.MAX_VALUE, Integer.MIN_VALUE};
        for (int flat : flats) {
            is("worth(" + flat + ", 0)", x.worth(flat, 0), -1);
        }
        int[] weeks = {-1, 53, Integer.MAX_VALUE, Integer.MIN_VALUE};
        for (int week : weeks) {
            is("worth(0, " + week + ")", x.worth(0, week), -1);
        }
        is("worth(0, 0)", x.worth(0, 0), 0);
        is("worth(0, 52)", x.worth(0, 52), 0);
    }

    private static void rulesInPlaceOfThoseBefore() {
        about("7: RULES in place of those before");
        WeekBank x = new WeekBank();
        x.flat(0, 1);
        String[] texts = {"season 0 52 5;", "size 1 6;", "early 0 7;", "heirs bound;", "", "size 1 8;", "size 1 9;"};
        int[] worths = {5, 6, 7, 0, 0, 8, 9};
        for (int i = 0; i < texts.length; i++) {
            rules(x, texts[i]);
            is("worth by '" + texts[i] + "'", x.worth(0, 9), worths[i]);
            is("heirs by '" + texts[i] + "'", x.count(8), texts[i].startsWith("heirs") ? 1 : 0);
        }
    }
}
