import java.util.ArrayList;
import java.util.List;
import java.util.NoSuchElementException;
import java.util.Random;
import java.util.regex.Matcher;
import java.util.regex.Pattern;

/** Runs of many calls, drawn from fixed seeds, against a second and slower telling of the document. */
public final class ModelTest {
    private static final int RUNS = 1500;
    private static final int CALLS = 512;
    private static int wrong = 0;

    public static void main(String[] args) {
        for (int run = 0; run < RUNS && wrong < 5; run++) {
            oneRun(run);
        }
        System.out.println(wrong == 0 ? RUNS + " runs are as the model's" : wrong + " runs are wrong");
        if (wrong != 0) {
            System.exit(1);
        }
    }

    private static void oneRun(int seed) {
        Drawing draw = new Drawing(new Random(seed));
        if (seed % 4 == 0) {
            draw.queueDenseRings();
        }
        WeekBank real = new WeekBank();
        Model model = new Model();
        List<String> trace = new ArrayList<>();
        for (int call = 0; call < CALLS; call++) {
            int[] c = draw.call(model, call);
            long got = onReal(real, c);
            long want = model.answer(c);
            trace.add(Drawing.NAMES[c[0]] + java.util.Arrays.toString(c) + " = " + got);
            if (got != want) {
                wrong++;
                System.out.println("run " + seed + ", call " + call + ": due is " + want);
                for (String line : trace.subList(Math.max(0, trace.size() - 25), trace.size())) {
                    System.out.println("  " + line);
                }
                return;
            }
        }
    }

    private static long onReal(WeekBank x, int[] c) {
        switch (c[0]) {
            case 0: return x.flat(c[1], c[2]);
            case 1: return x.owner(c[1]);
            case 2: return x.own(c[1], c[2], c[3]) ? 1 : 0;
            case 3: return x.feed(c[1], c[2], c[3], c[4], c[5]);
            case 4: return x.end(c[1]);
            case 5: return x.rules();
            case 6: return x.place();
            case 7: return x.worth(c[1], c[2]);
            case 8: return x.give(c[1], c[2], c[3]);
            case 9: return x.wish(c[1], c[2], c[3], c[4], c[5]) ? 1 : 0;
            case 10: return x.rushWish(c[1], c[2], c[3], c[4], c[5]) ? 1 : 0;
            case 11: return x.rings(c[1]);
            case 12: return x.bank(c[1]);
            case 13: return x.take(c[1], c[2]);
            case 14: return x.rush();
            case 15: return x.shut(c[1], c[2], c[3]);
            case 16: return x.weeks(c[1]);
            case 17: return x.year();
            case 18: return x.dies(c[1], c[2], c[3] == 1);
            case 19: return x.fees(c[1], c[2]);
            case 20: return x.party(c[1], c[2]);
            case 21:
                try {
                    return x.of(c[1], c[2]);
                } catch (NoSuchElementException e) {
                    return Long.MIN_VALUE;
                }
            case 22: return x.ownerOf(c[1], c[2]);
            default: return x.count(c[1]);
        }
    }

    /** Draws calls that mostly fit what is there, now and then wild ones. */
    private static final class Drawing {
        static final String[] NAMES = {"flat", "owner", "own", "feed", "end", "rules", "place", "worth", "give", "wish",
            "rushWish", "rings", "bank", "take", "rush", "shut", "weeks", "year", "dies", "fees", "party", "of",
            "ownerOf", "count"};
        private static final int[] OFTEN = {8, 10, 30, 0, 3, 0, 3, 10, 150, 130, 30, 14, 30, 20, 12, 8, 8, 4, 2, 20, 30,
            80, 50, 25};
        private static final int[] WILD = {-2, -1, 0, 1, 2, 3, 4, 5, 6, 9, 10, 52, 53, 54, 200, 9999, 10000,
            Integer.MAX_VALUE, Integer.MIN_VALUE};
        private static final String[] BITS = {"season ", "size ", "early ", "heirs ", "bound", "free", ";", " ", "\n", "1",
            "52", "53", "12345", "x", "?", "season 0 52 9;", "early 3 4;"};
        private final Random random;
        private final List<int[]> queue = new ArrayList<>();

        Drawing(Random random) {
            this.random = random;
        }

        int[] call(Model m, int number) {
            if (number == 0 && queue.isEmpty() && random.nextInt(8) != 0) {
                queueStart();
            }
            if (queue.isEmpty() && random.nextInt(60) == 0) {
                queueRules();
            }
            if (!queue.isEmpty()) {
                return queue.remove(0);
            }
            int left = random.nextInt(java.util.Arrays.stream(OFTEN).sum());
            int kind = 0;
            while (left >= OFTEN[kind]) {
                left -= OFTEN[kind++];
            }
            return fill(m, kind);
        }

        private int upTo(int bound) {
            if (random.nextInt(40) == 0) {
                return WILD[random.nextInt(WILD.length)];
            }
            return random.nextInt(Math.max(1, bound + 1) + (random.nextInt(20) == 0 ? 1 : 0));
        }

        private int week(Model m) {
            return upTo(random.nextInt(4) == 0 ? 52 : Math.min(52, m.now + 12));
        }

        private int[] fill(Model m, int kind) {
            int f = upTo(m.town.size() - 1);
            int o = upTo(m.limit.size() - 1);
            int g = upTo(m.gifts.size() - 1);
            int w = week(m);
            switch (kind) {
                case 0: return new int[] {0, upTo(3), 1 + upTo(3)};
                case 1: return new int[] {1, random.nextBoolean() ? upTo(9999) : upTo(300)};
                case 2: return new int[] {2, f, w, o};
                case 4: return new int[] {4, upTo(40)};
                case 7: return new int[] {7, f, w};
                case 8: return giveCall(m, o, f, w);
                case 9:
                case 10:
                    int from = random.nextBoolean() ? 0 : week(m);
                    int town = random.nextInt(3) == 0 ? upTo(3) : -1;
                    int to = from + random.nextInt(random.nextBoolean() ? 30 : 54 - Math.min(53, Math.max(0, from)));
                    return new int[] {kind, kind == 9 ? gift(m, 0) : o, town, from, to, 1 + random.nextInt(2)};
                case 11: return new int[] {11, random.nextInt(12)};
                case 12: return new int[] {12, gift(m, 0)};
                case 13: return new int[] {13, o, gift(m, 2)};
                case 15: return new int[] {15, f, Math.max(w, m.now), w + random.nextInt(12) - 1};
                case 16: return new int[] {16, upTo(random.nextInt(4) == 0 ? 9 : 2)};
                case 18: return new int[] {18, o, upTo(m.limit.size() - 1), random.nextInt(2)};
                case 19: return new int[] {19, 1 + random.nextInt(random.nextBoolean() ? 3000 : 999999), upTo(2)};
                case 20: return new int[] {20, f, w};
                case 21: return new int[] {21, g, random.nextInt(9)};
                case 22: return new int[] {22, o, random.nextInt(7)};
                case 23: return new int[] {23, random.nextInt(11)};
                default: return new int[] {kind};
            }
        }

        private int[] giveCall(Model m, int o, int f, int w) {
            if (random.nextInt(8) == 0) {
                return new int[] {8, o, f, w};
            }
            List<int[]> could = new ArrayList<>();
            for (int flat = 0; flat < 6; flat++) {
                for (int week = m.now; week < 53; week++) {
                    if (m.owns[flat][week] >= 0) {
                        could.add(new int[] {8, m.owns[flat][week], flat, week});
                    }
                }
            }
            return could.isEmpty() ? new int[] {8, o, f, w} : could.get(random.nextInt(could.size()));
        }

        /** A gift that is as the call needs it, most times. */
        private int gift(Model m, int how) {
            List<Integer> fitting = m.all(how);
            if (fitting.isEmpty() || random.nextInt(8) == 0) {
                return upTo(m.gifts.size() - 1);
            }
            return fitting.get(random.nextInt(fitting.size()));
        }

        /** Gifts of few different worths, most of which meet most wishes: so that many ways are alike. */
        private void queueDenseRings() {
            queue.add(new int[] {0, 0, 1});
            queue.add(new int[] {0, 1, 2});
            for (int o = 0; o < 9; o++) {
                queue.add(new int[] {1, 100});
            }
            queueText("season 0 52 1; season 5 6 2; season 12 17 2; size 2 1;");
            int waiting = 5 + random.nextInt(5);
            int widest = 6 + random.nextInt(20);
            for (int i = 0; i < waiting; i++) {
                int flat = random.nextInt(2);
                queue.add(new int[] {2, flat, 2 * i + 1, i});
                queue.add(new int[] {8, i, flat, 2 * i + 1});
                int from = random.nextInt(random.nextBoolean() ? 18 : 6);
                queue.add(new int[] {9, i, random.nextInt(4) == 0 ? random.nextInt(2) : -1, from, from + random.nextInt(widest), 1});
            }
            for (int n = 2 + random.nextInt(3); n <= 9; n += 1 + random.nextInt(4)) {
                queue.add(new int[] {11, n});
            }
            for (int i = 0; i < waiting; i++) {
                queue.add(new int[] {21, i, 6});
                queue.add(new int[] {21, i, 7});
            }
        }

        private void queueStart() {
            int flats = 1 + random.nextInt(6);
            int owners = 1 + random.nextInt(10);
            for (int i = 0; i < flats; i++) {
                queue.add(new int[] {0, random.nextInt(4), 1 + random.nextInt(4)});
            }
            for (int i = 0; i < owners; i++) {
                queue.add(new int[] {1, random.nextInt(random.nextBoolean() ? 10000 : 300)});
            }
            for (int i = 0; i < 60; i++) {
                queue.add(new int[] {2, random.nextInt(flats), random.nextInt(53), random.nextInt(owners)});
            }
            queueRules();
        }

        private void queueRules() {
            StringBuilder text = new StringBuilder();
            int parts = random.nextInt(12);
            if (random.nextInt(12) == 0) {
                parts = 31;
            }
            for (int i = 0; i < parts; i++) {
                text.append(parts == 31 ? "size1 1;" : statement());
            }
            if (random.nextInt(5) == 0) {
                for (int i = 0; i < 3; i++) {
                    int at = text.length() == 0 ? 0 : random.nextInt(text.length());
                    text.insert(at, BITS[random.nextInt(BITS.length)]);
                }
            }
            if (text.length() > 300) {
                text.setLength(300);
            }
            queueText(text.toString());
        }

        private void queueText(String whole) {
            StringBuilder text = new StringBuilder(whole);
            int length = text.length();
            while (text.length() % 20 != 0) {
                text.append(' ');
            }
            queue.add(new int[] {4, 0});
            for (int i = 0; i < text.length(); i += 20) {
                int[] c = {3, 0, 0, 0, 0, 0};
                for (int j = 0; j < 20; j++) {
                    c[1 + j / 4] = c[1 + j / 4] << 8 | text.charAt(i + j);
                }
                queue.add(c);
            }
            queue.add(new int[] {4, length});
            queue.add(new int[] {5});
            queue.add(new int[] {6});
        }

        private String statement() {
            int low = random.nextInt(53);
            int value = random.nextInt(random.nextBoolean() ? 4 : 100);
            String gap = random.nextBoolean() ? " " : "\n ";
            switch (random.nextInt(5)) {
                case 0: return "size" + gap + (1 + random.nextInt(4)) + gap + value + ";";
                case 1: return "early " + random.nextInt(30) + gap + value + ";" + gap;
                case 2: return "heirs" + gap + (random.nextBoolean() ? "bound" : "free") + gap + ";";
                default: return "season " + low + gap + (low + random.nextInt(54 - low)) + " " + value + ";";
            }
        }
    }

    private static final class Gift {
        int owner;
        int flat;
        int week;
        int year;
        int worth;
        int how = 0;
        int got = -1;
        int by = -1;
        int[] wish = null;
    }

    private static final class Model {
        final List<Integer> town = new ArrayList<>();
        final List<Integer> size = new ArrayList<>();
        final List<Integer> limit = new ArrayList<>();
        final int[] points = new int[10];
        final int[] luck = new int[10];
        final boolean[] dead = new boolean[10];
        final int[][] rushWish = new int[10][];
        final int[][] owns = new int[6][53];
        final boolean[][] shut = new boolean[6][53];
        final List<Gift> gifts = new ArrayList<>();
        final List<Integer> tape = new ArrayList<>();
        List<int[]> told = new ArrayList<>();
        int place = -1;
        int year = 0;
        int now = 0;

        Model() {
            for (int[] row : owns) {
                java.util.Arrays.fill(row, -1);
            }
        }

        long answer(int[] c) {
            switch (c[0]) {
                case 0: return addFlat(c[1], c[2]);
                case 1: return addOwner(c[1]);
                case 2: return setOwner(c[1], c[2], c[3]);
                case 3: return feed(c);
                case 4: return end(c[1]);
                case 5: return rules();
                case 6: return place;
                case 7: return isFlat(c[1]) && isWeek(c[2]) ? worth(c[1], c[2]) : -1;
                case 8: return give(c[1], c[2], c[3]);
                case 9: return wish(c);
                case 10: return wishForRush(c);
                case 11: return rings(c[1]);
                case 12: return bank(c[1]);
                case 13: return take(c[1], c[2]);
                case 14: return rush();
                case 15: return shut(c[1], c[2], c[3]);
                case 16: return weeks(c[1]);
                case 17: return nextYear();
                case 18: return dies(c[1], c[2], c[3] == 1);
                case 19: return fees(c[1], c[2]);
                case 20: return party(c[1], c[2]);
                case 21: return of(c[1], c[2]);
                case 22: return ownerOf(c[1], c[2]);
                default: return count(c[1]);
            }
        }

        boolean isFlat(int f) {
            return 0 <= f && f < town.size();
        }

        boolean isOwner(int o) {
            return 0 <= o && o < limit.size();
        }

        boolean lives(int o) {
            return isOwner(o) && !dead[o];
        }

        boolean isWeek(int w) {
            return 0 <= w && w <= 52;
        }

        boolean isGift(int g) {
            return 0 <= g && g < gifts.size();
        }

        long addFlat(int t, int s) {
            if (t < 0 || t > 3 || s < 1 || s > 4 || town.size() == 6) {
                return -1;
            }
            town.add(t);
            size.add(s);
            return town.size() - 1;
        }

        long addOwner(int l) {
            if (l < 0 || l > 9999 || limit.size() == 10) {
                return -1;
            }
            limit.add(l);
            return limit.size() - 1;
        }

        Gift outGift(int f, int w) {
            for (Gift g : gifts) {
                if (g.flat == f && g.week == w && g.year == year && g.how <= 3) {
                    return g;
                }
            }
            return null;
        }

        long setOwner(int f, int w, int o) {
            if (!isFlat(f) || !isWeek(w) || (o != -1 && !lives(o)) || outGift(f, w) != null) {
                return 0;
            }
            owns[f][w] = o;
            return 1;
        }

        long feed(int[] c) {
            if (tape.size() > 280) {
                return -1;
            }
            for (int i = 0; i < 20; i++) {
                tape.add(c[1 + i / 4] >> (24 - i % 4 * 8) & 255);
            }
            return tape.size();
        }

        long end(int n) {
            if (n < 0 || n > tape.size()) {
                return -1;
            }
            tape.subList(n, tape.size()).clear();
            return n;
        }

        /** By patterns: tokens first, each with its place, then statement by statement. */
        long rules() {
            StringBuilder b = new StringBuilder();
            for (int one : tape) {
                b.append((char) one);
            }
            String text = b.toString();
            tape.clear();
            List<String> tokens = new ArrayList<>();
            List<Integer> places = new ArrayList<>();
            Matcher m = Pattern.compile("[ \n]+|[a-z]+|[0-9]+|[^a-z0-9 \n]").matcher(text);
            while (m.find()) {
                if (m.group().charAt(0) != ' ' && m.group().charAt(0) != '\n') {
                    tokens.add(m.group());
                    places.add(m.start());
                }
            }
            tokens.add("");
            places.add(text.length());
            List<int[]> read = new ArrayList<>();
            int at = 0;
            while (!tokens.get(at).isEmpty()) {
                int kind = List.of("season", "size", "early", "heirs").indexOf(tokens.get(at));
                if (kind < 0 || read.size() == 30) {
                    place = places.get(at);
                    return kind < 0 ? -2 : -4;
                }
                String[] forms = {"wwn;", "sn;", "wn;", "h;"};
                int[] s = {kind, 0, 0, 0};
                at++;
                for (int i = 0; i < forms[kind].length(); i++, at++) {
                    int fault = partFault(forms[kind].charAt(i), tokens.get(at), s, i);
                    if (fault != 0) {
                        place = places.get(at);
                        return -1 - fault;
                    }
                }
                read.add(s);
            }
            told = read;
            place = -1;
            return read.size();
        }

        int partFault(char form, String token, int[] s, int i) {
            if (form == ';') {
                return token.equals(";") ? 0 : 1;
            }
            if (form == 'h') {
                s[1] = token.equals("bound") ? 1 : 0;
                return token.equals("bound") || token.equals("free") ? 0 : 1;
            }
            if (!token.matches("[0-9]{1,4}")) {
                return 1;
            }
            int n = Integer.parseInt(token);
            s[i + 1] = n;
            if (form == 'w') {
                return n > 52 || (i == 1 && n < s[1]) ? 2 : 0;
            }
            return form == 's' && (n < 1 || n > 4) ? 2 : 0;
        }

        boolean bound() {
            boolean is = false;
            for (int[] s : told) {
                is = s[0] == 3 ? s[1] == 1 : is;
            }
            return is;
        }

        int worth(int f, int w) {
            int season = 0;
            int bySize = 0;
            int early = 0;
            int ahead = -1;
            for (int[] s : told) {
                if (s[0] == 0 && s[1] <= w && w <= s[2]) {
                    season = s[3];
                }
                if (s[0] == 1 && s[1] == size.get(f)) {
                    bySize = s[2];
                }
                if (s[0] == 2 && s[1] <= w - now && s[1] >= ahead) {
                    ahead = s[1];
                    early = s[2];
                }
            }
            return season + bySize + early;
        }

        long give(int o, int f, int w) {
            if (!lives(o) || !isFlat(f) || !isWeek(w)) {
                return -1;
            }
            if (owns[f][w] != o) {
                return -2;
            }
            if (w <= now) {
                return -3;
            }
            if (shut[f][w]) {
                return -4;
            }
            for (Gift g : gifts) {
                if (g.flat == f && g.week == w && g.year == year && g.how != 4) {
                    return -5;
                }
            }
            if (gifts.size() == 200 || all(0).size() == 9) {
                return -6;
            }
            Gift g = new Gift();
            g.owner = o;
            g.flat = f;
            g.week = w;
            g.year = year;
            g.worth = worth(f, w);
            gifts.add(g);
            return gifts.size() - 1;
        }

        List<Integer> all(int how) {
            List<Integer> found = new ArrayList<>();
            for (int i = 0; i < gifts.size(); i++) {
                if (gifts.get(i).how == how && gifts.get(i).year == year) {
                    found.add(i);
                }
            }
            return found;
        }

        int[] wished(int[] c) {
            boolean fits = c[2] >= -1 && c[2] <= 3 && isWeek(c[3]) && isWeek(c[4]) && c[3] <= c[4] && c[5] >= 1 && c[5] <= 4;
            return fits ? new int[] {c[2], c[3], c[4], c[5]} : null;
        }

        long wish(int[] c) {
            if (!isGift(c[1]) || gifts.get(c[1]).how != 0 || wished(c) == null) {
                return 0;
            }
            gifts.get(c[1]).wish = wished(c);
            return 1;
        }

        long wishForRush(int[] c) {
            if (!lives(c[1]) || wished(c) == null) {
                return 0;
            }
            rushWish[c[1]] = wished(c);
            return 1;
        }

        boolean meets(Gift g, int[] w) {
            return (w[0] == -1 || w[0] == town.get(g.flat)) && w[1] <= g.week && g.week <= w[2] && w[3] <= size.get(g.flat);
        }

        long rings(int n) {
            if (n < 2 || n > 9) {
                return -1;
            }
            AllWays ways = new AllWays(this, all(0), n);
            ways.tryFrom(0);
            int count = 0;
            for (int i = 0; i < ways.waiting.size(); i++) {
                if (ways.best[i] >= 0) {
                    Gift g = gifts.get(ways.waiting.get(i));
                    g.how = 1;
                    g.got = ways.waiting.get(ways.best[i]);
                    gifts.get(g.got).by = g.owner;
                    count++;
                }
            }
            return count;
        }

        long bank(int g) {
            if (!isGift(g) || gifts.get(g).how != 0) {
                return -1;
            }
            gifts.get(g).how = 2;
            return points[gifts.get(g).owner] += gifts.get(g).worth;
        }

        long take(int o, int g) {
            if (!lives(o) || !isGift(g) || gifts.get(g).how != 2) {
                return -1;
            }
            if (points[o] < gifts.get(g).worth) {
                return -2;
            }
            gifts.get(g).how = 3;
            gifts.get(g).by = o;
            return points[o] -= gifts.get(g).worth;
        }

        long rush() {
            List<Integer> line = new ArrayList<>();
            for (int o = 0; o < limit.size(); o++) {
                if (rushWish[o] != null) {
                    line.add(o);
                }
            }
            line.sort((a, b) -> luck[a] != luck[b] ? Integer.compare(luck[a], luck[b]) : Integer.compare(a, b));
            int taken = 0;
            for (int o : line) {
                Gift best = null;
                for (int i : all(2)) {
                    Gift g = gifts.get(i);
                    if (meets(g, rushWish[o]) && g.worth <= points[o] && (best == null || g.worth > best.worth)) {
                        best = g;
                    }
                }
                if (best != null) {
                    best.how = 3;
                    best.by = o;
                    points[o] -= best.worth;
                    luck[o] += best.worth;
                    rushWish[o] = null;
                    taken++;
                }
            }
            return taken;
        }

        long shut(int f, int from, int to) {
            if (!isFlat(f) || !isWeek(from) || !isWeek(to) || from > to || from < now) {
                return -1;
            }
            int ended = 0;
            for (Gift g : gifts) {
                if (g.year == year && g.flat == f && from <= g.week && g.week <= to && g.how <= 3) {
                    ended++;
                    if (g.how == 2) {
                        points[g.owner] = Math.max(0, points[g.owner] - g.worth);
                    }
                    if (g.how == 1 || g.how == 3) {
                        points[g.by] += g.worth;
                    }
                    g.how = g.how == 1 || g.how == 3 ? 5 : 4;
                }
            }
            java.util.Arrays.fill(shut[f], from, to + 1, true);
            return ended;
        }

        long weeks(int n) {
            if (n < 1 || n > 52 || now + n > 52) {
                return -1;
            }
            now += n;
            for (Gift g : gifts) {
                if ((g.how == 0 || g.how == 2) && g.week <= now) {
                    g.how = 5;
                }
            }
            return now;
        }

        long nextYear() {
            for (Gift g : gifts) {
                g.how = g.how == 0 || g.how == 2 ? 5 : g.how;
            }
            for (boolean[] row : shut) {
                java.util.Arrays.fill(row, false);
            }
            now = 0;
            return ++year;
        }

        long dies(int o, int h, boolean yes) {
            if (!lives(o) || !lives(h) || o == h) {
                return -1;
            }
            boolean goes = yes || bound();
            int went = 0;
            for (int[] row : owns) {
                for (int w = 0; w < 53; w++) {
                    if (row[w] == o) {
                        row[w] = goes ? h : -1;
                        went += goes ? 1 : 0;
                    }
                }
            }
            for (int i : all(0)) {
                if (gifts.get(i).owner == o) {
                    gifts.get(i).how = 4;
                }
            }
            points[h] += goes ? points[o] : 0;
            points[o] = 0;
            dead[o] = true;
            rushWish[o] = null;
            return went;
        }

        int owned(int o) {
            int count = 0;
            for (int[] row : owns) {
                for (int who : row) {
                    count += who == o ? 1 : 0;
                }
            }
            return count;
        }

        long fees(int cost, int what) {
            if (cost < 1 || cost > 999999 || what < 0 || what > 2) {
                return -1;
            }
            List<Integer> stay = new ArrayList<>();
            for (int o = 0; o < limit.size(); o++) {
                if (!dead[o]) {
                    stay.add(o);
                }
            }
            int rounds = 0;
            while (true) {
                int weeks = stay.stream().mapToInt(this::owned).sum();
                if (weeks == 0) {
                    return what == 1 ? rounds : 0;
                }
                int fee = cost / weeks + (cost % weeks == 0 ? 0 : 1);
                if (!stay.removeIf(o -> limit.get(o) < fee)) {
                    long such = stay.stream().filter(o -> owned(o) > 0).count();
                    return what == 0 ? fee : what == 1 ? rounds : such;
                }
                rounds++;
            }
        }

        long party(int f, int w) {
            if (!isFlat(f) || !isWeek(w)) {
                return -1;
            }
            Gift g = outGift(f, w);
            if (g == null) {
                return owns[f][w];
            }
            return g.how == 0 || g.how == 2 ? -2 : g.by;
        }

        long of(int i, int what) {
            if (!isGift(i) || what < 0 || what > 7) {
                return Long.MIN_VALUE;
            }
            Gift g = gifts.get(i);
            int by = g.how == 1 || g.how == 3 ? g.by : -1;
            return new int[] {g.owner, g.flat, g.week, g.year, g.worth, g.how, g.how == 1 ? g.got : -1, by}[what];
        }

        long ownerOf(int o, int what) {
            if (!isOwner(o) || what < 0 || what > 5) {
                return -1;
            }
            int wishes = rushWish[o] == null ? 0 : 1;
            return new int[] {points[o], luck[o], limit.get(o), owned(o), dead[o] ? 1 : 0, wishes}[what];
        }

        long count(int what) {
            if (what < 0 || what > 9) {
                return -1;
            }
            int sum = java.util.Arrays.stream(points).sum();
            return new int[] {town.size(), limit.size(), year, now, gifts.size(), all(0).size(), all(2).size(), tape.size(),
                bound() ? 1 : 0, sum}[what];
        }
    }

    /** Every way in turn, the first first: so a later one wins only if it is better. */
    private static final class AllWays {
        final Model model;
        final List<Integer> waiting;
        final int most;
        final int[] got;
        final boolean[] isGot;
        int[] best;
        int bestCount = -1;
        int bestSum = -1;

        AllWays(Model model, List<Integer> waiting, int most) {
            this.model = model;
            this.waiting = waiting;
            this.most = most;
            got = new int[waiting.size()];
            isGot = new boolean[waiting.size()];
            best = got.clone();
        }

        void tryFrom(int i) {
            if (i == got.length) {
                judge();
                return;
            }
            Gift g = model.gifts.get(waiting.get(i));
            for (int j = 0; j < got.length && g.wish != null; j++) {
                if (j != i && !isGot[j] && (j > i || got[j] >= 0) && model.meets(model.gifts.get(waiting.get(j)), g.wish)) {
                    got[i] = j;
                    isGot[j] = true;
                    tryFrom(i + 1);
                    isGot[j] = false;
                }
            }
            got[i] = -1;
            if (!isGot[i]) {
                tryFrom(i + 1);
            }
        }

        private void judge() {
            int count = 0;
            int sum = 0;
            for (int i = 0; i < got.length; i++) {
                if ((got[i] >= 0) != isGot[i] || !comesBack(i)) {
                    return;
                }
                count += isGot[i] ? 1 : 0;
                sum += isGot[i] ? model.gifts.get(waiting.get(i)).worth : 0;
            }
            if (count > bestCount || (count == bestCount && sum > bestSum)) {
                bestCount = count;
                bestSum = sum;
                best = got.clone();
            }
        }

        private boolean comesBack(int i) {
            if (got[i] < 0) {
                return true;
            }
            int at = i;
            for (int step = 1; step <= most; step++) {
                at = got[at];
                if (at < 0) {
                    return false;
                }
                if (at == i) {
                    return true;
                }
            }
            return false;
        }
    }
}
