import java.util.NoSuchElementException;

/** What the tests by hand share: the count of wrong answers, the tape, and a bank to begin with. */
abstract class Checks {
    private static int wrong = 0;
    private static String told = "";

    /** Names the promise or sentence that the checks behind it are about. */
    static void about(String words) {
        told = words;
    }

    static void finish(String allWell) {
        System.out.println(wrong == 0 ? allWell : wrong + " answers are wrong");
        if (wrong != 0) {
            System.exit(1);
        }
    }

    static void is(String call, String got, String want) {
        if (!got.equals(want)) {
            wrong++;
            System.out.println(told + ": " + call + " answered " + got + ", due is " + want);
        }
    }

    static void is(String call, int got, int want) {
        is(call, String.valueOf(got), String.valueOf(want));
    }

    static void is(String call, boolean got, boolean want) {
        is(call, String.valueOf(got), String.valueOf(want));
    }

    static String ofOrThrows(WeekBank x, int gift, int what) {
        try {
            return String.valueOf(x.of(gift, what));
        } catch (NoSuchElementException e) {
            return "throws";
        }
    }

    static void noSuch(WeekBank x, int gift, int what) {
        is("of(" + gift + ", " + what + ")", ofOrThrows(x, gift, what), "throws");
    }

    static void tape(WeekBank x, String text) {
        StringBuilder padded = new StringBuilder(text);
        while (padded.length() % 20 != 0) {
            padded.append(' ');
        }
        for (int i = 0; i < padded.length(); i += 20) {
            int[] n = new int[5];
            for (int j = 0; j < 20; j++) {
                n[j / 4] = n[j / 4] << 8 | padded.charAt(i + j);
            }
            x.feed(n[0], n[1], n[2], n[3], n[4]);
        }
        x.end(text.length());
    }

    static int rules(WeekBank x, String text) {
        tape(x, text);
        return x.rules();
    }

    static void fault(String text, int kind, int place) {
        WeekBank x = new WeekBank();
        is("rules of '" + text + "'", rules(x, text), -1 - kind);
        is("place of '" + text + "'", x.place(), place);
        is("tape after '" + text + "'", x.count(7), 0);
    }

    static void good(String text, int statements) {
        WeekBank x = new WeekBank();
        is("rules of '" + text + "'", rules(x, text), statements);
        is("place of '" + text + "'", x.place(), WeekBank.NONE);
    }

    /** Two flats (town 0 size 1, town 1 size 3), owners 0 to 3; owner o owns weeks 10 o + 1 to 10 o + 9 of both. */
    static WeekBank bank() {
        WeekBank x = new WeekBank();
        x.flat(0, 1);
        x.flat(1, 3);
        for (int o = 0; o < 4; o++) {
            x.owner(100 * (o + 1));
            for (int week = 10 * o + 1; week < 10 * o + 10; week++) {
                x.own(0, week, o);
                x.own(1, week, o);
            }
        }
        rules(x, "season 0 9 10; season 10 19 20; season 20 29 30; season 30 52 40; size 3 5;");
        return x;
    }
}
