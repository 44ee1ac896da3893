import java.util.Arrays;
import java.util.NoSuchElementException;

/** A bank of shared weeks, as ../shared/DOC.md tells it. */
public final class WeekBank {
    public static final int NONE = -1;

    private static final int MOST_FLATS = 6;
    private static final int MOST_OWNERS = 10;
    private static final int MOST_GIFTS = 200;
    private static final int MOST_WAITING = 9;
    private static final int MOST_BYTES = 300;
    private static final int FED_BYTES = 20;
    private static final int LAST_WEEK = 52;
    private static final int WEEKS = 53;
    private static final int LAST_TOWN = 3;
    private static final int LAST_SIZE = 4;
    private static final int MOST_LIMIT = 9999;
    private static final int MOST_COST = 999999;

    private static final int WAITS = 0;
    private static final int SWAPPED = 1;
    private static final int BANKED = 2;
    private static final int TAKEN = 3;
    private static final int BACK = 4;
    private static final int PAST = 5;

    private static final int THE_BANK = -2;
    private static final int TOO_FEW_POINTS = -2;
    private static final int NOT_OWNED = -2;
    private static final int TOO_LATE = -3;
    private static final int IS_SHUT = -4;
    private static final int GIVEN_BEFORE = -5;
    private static final int NO_ROOM = -6;

    private final Flat[] flats = new Flat[MOST_FLATS];
    private int flatCount = 0;
    private final Owner[] owners = new Owner[MOST_OWNERS];
    private int ownerCount = 0;
    private final Gift[] gifts = new Gift[MOST_GIFTS];
    private int giftCount = 0;
    private final Reader reader = new Reader();
    private Rules told = new Rules();
    private Rules draft = new Rules();
    private int yearNow = 0;
    private int now = 0;
    private final RingSearch search = new RingSearch();
    private final FeeRounds feeRounds = new FeeRounds();

    public WeekBank() {
    }

    public int flat(int town, int size) {
        if (town < 0 || town > LAST_TOWN || !isSize(size) || flatCount >= MOST_FLATS) {
            return NONE;
        }
        int number = flatCount;
        flats[number] = new Flat(number, town, size);
        flatCount++;
        return number;
    }

    public int owner(int limit) {
        if (limit < 0 || limit > MOST_LIMIT || ownerCount >= MOST_OWNERS) {
            return NONE;
        }
        int number = ownerCount;
        owners[number] = new Owner(number, limit);
        ownerCount++;
        return number;
    }

    public boolean own(int flat, int week, int owner) {
        Flat place = flatAt(flat);
        Owner next = livingOwnerAt(owner);
        if (place == null || !isWeek(week) || (next == null && owner != NONE)) {
            return false;
        }
        Gift gift = place.gifts[week];
        if (gift != null && gift.isOut()) {
            return false;
        }
        place.passTo(week, next);
        return true;
    }

    public int feed(int a, int b, int c, int d, int e) {
        if (reader.length + FED_BYTES > MOST_BYTES) {
            return NONE;
        }
        reader.addBytes(a);
        reader.addBytes(b);
        reader.addBytes(c);
        reader.addBytes(d);
        reader.addBytes(e);
        return reader.length;
    }

    public int end(int n) {
        if (n < 0 || n > reader.length) {
            return NONE;
        }
        reader.length = n;
        return n;
    }

    public int rules() {
        reader.readInto(draft);
        reader.length = 0;
        if (reader.fault != Reader.NO_FAULT) {
            return -reader.fault - 1;
        }
        Rules before = told;
        told = draft;
        draft = before;
        return told.statements;
    }

    public int place() {
        return reader.faultPlace;
    }

    public int worth(int flat, int week) {
        Flat place = flatAt(flat);
        if (place == null || !isWeek(week)) {
            return NONE;
        }
        return told.worthOf(place.size, week, week - now);
    }

    public int give(int owner, int flat, int week) {
        Owner giver = livingOwnerAt(owner);
        Flat place = flatAt(flat);
        if (giver == null || place == null || !isWeek(week)) {
            return NONE;
        }
        if (place.owners[week] != giver) {
            return NOT_OWNED;
        }
        if (week <= now) {
            return TOO_LATE;
        }
        if (place.shut[week]) {
            return IS_SHUT;
        }
        Gift before = place.gifts[week];
        if (before != null && before.state != BACK) {
            return GIVEN_BEFORE;
        }
        if (giftCount >= MOST_GIFTS || countGifts(WAITS) >= MOST_WAITING) {
            return NO_ROOM;
        }
        return addGift(giver, place, week);
    }

    public boolean wish(int gift, int town, int from, int to, int size) {
        Gift waiting = giftThatIs(gift, WAITS);
        if (waiting == null || !canBeWished(town, from, to, size)) {
            return false;
        }
        waiting.wish = new Wish(town, from, to, size);
        return true;
    }

    public boolean rushWish(int owner, int town, int from, int to, int size) {
        Owner wisher = livingOwnerAt(owner);
        if (wisher == null || !canBeWished(town, from, to, size)) {
            return false;
        }
        wisher.wish = new Wish(town, from, to, size);
        return true;
    }

    public int rings(int n) {
        if (n < 2 || n > MOST_WAITING) {
            return NONE;
        }
        search.clear();
        for (int i = 0; i < giftCount; i++) {
            // Who has no WISH gets nothing, and so is got by none: it can't be in a ring.
            if (gifts[i].state == WAITS && gifts[i].wish != null) {
                search.add(gifts[i]);
            }
        }
        search.findBest(n);
        return search.swapBest();
    }

    public int bank(int gift) {
        Gift waiting = giftThatIs(gift, WAITS);
        if (waiting == null) {
            return NONE;
        }
        waiting.state = BANKED;
        waiting.owner.points += waiting.worth;
        return waiting.owner.points;
    }

    public int take(int owner, int gift) {
        Owner taker = livingOwnerAt(owner);
        Gift banked = giftThatIs(gift, BANKED);
        if (taker == null || banked == null) {
            return NONE;
        }
        if (taker.points < banked.worth) {
            return TOO_FEW_POINTS;
        }
        banked.goTo(taker);
        return taker.points;
    }

    public int rush() {
        for (int i = 0; i < ownerCount; i++) {
            owners[i].inLine = owners[i].wish != null;
        }
        int taken = 0;
        for (int turn = 0; turn < ownerCount; turn++) {
            Owner chooser = firstInLine();
            if (chooser == null) {
                break;
            }
            chooser.inLine = false;
            Gift choice = bestBankedFor(chooser);
            if (choice != null) {
                choice.goTo(chooser);
                chooser.luck += choice.worth;
                chooser.wish = null;
                taken++;
            }
        }
        return taken;
    }

    public int shut(int flat, int from, int to) {
        Flat place = flatAt(flat);
        if (place == null || from < now || from > to || to > LAST_WEEK) {
            return NONE;
        }
        for (int week = from; week <= to; week++) {
            place.shut[week] = true;
        }
        int ended = 0;
        for (int i = 0; i < giftCount; i++) {
            Gift gift = gifts[i];
            boolean isThere = gift.flat == place && gift.week >= from && gift.week <= to;
            if (isThere && gift.year == yearNow && gift.isOut()) {
                gift.endByShutting();
                ended++;
            }
        }
        return ended;
    }

    public int weeks(int n) {
        if (n < 1 || n > LAST_WEEK - now) {
            return NONE;
        }
        now += n;
        endUnusedGifts(now);
        return now;
    }

    public int year() {
        endUnusedGifts(LAST_WEEK);
        for (int i = 0; i < flatCount; i++) {
            flats[i].beginYear();
        }
        now = 0;
        yearNow++;
        return yearNow;
    }

    public int dies(int owner, int heir, boolean yes) {
        Owner dying = livingOwnerAt(owner);
        Owner next = livingOwnerAt(heir);
        if (dying == null || next == null || dying == next) {
            return NONE;
        }
        for (int i = 0; i < giftCount; i++) {
            if (gifts[i].owner == dying && gifts[i].state == WAITS) {
                gifts[i].state = BACK;
            }
        }
        boolean inherits = told.heirsAreBound || yes;
        int inherited = inherits ? dying.weeksOwned : 0;
        passAllWeeks(dying, inherits ? next : null);
        if (inherits) {
            next.points += dying.points;
        }
        dying.points = 0;
        dying.wish = null;
        dying.isDead = true;
        return inherited;
    }

    public int fees(int cost, int what) {
        if (cost < 1 || cost > MOST_COST || what < 0 || what > 2) {
            return NONE;
        }
        feeRounds.clear();
        for (int i = 0; i < ownerCount; i++) {
            if (!owners[i].isDead) {
                feeRounds.add(owners[i].limit, owners[i].weeksOwned);
            }
        }
        feeRounds.reckon(cost);
        if (what == 0) {
            return feeRounds.fee;
        }
        return what == 1 ? feeRounds.roundsLeft : feeRounds.countStaying();
    }

    public int party(int flat, int week) {
        Flat place = flatAt(flat);
        if (place == null || !isWeek(week)) {
            return NONE;
        }
        Gift gift = place.gifts[week];
        if (gift == null || !gift.isOut()) {
            return numberOf(place.owners[week]);
        }
        return gift.isGot() ? numberOf(gift.getter) : THE_BANK;
    }

    public int of(int gift, int what) throws NoSuchElementException {
        Gift asked = giftAt(gift);
        if (asked == null) {
            throw new NoSuchElementException("no such gift");
        }
        switch (what) {
            case 0:
                return asked.owner.number;
            case 1:
                return asked.flat.number;
            case 2:
                return asked.week;
            case 3:
                return asked.year;
            case 4:
                return asked.worth;
            case 5:
                return asked.state;
            case 6:
                return asked.state == SWAPPED && asked.got != null ? asked.got.number : NONE;
            case 7:
                return asked.isGot() ? numberOf(asked.getter) : NONE;
            default:
                throw new NoSuchElementException("nothing of a gift has that number");
        }
    }

    public int ownerOf(int owner, int what) {
        Owner asked = ownerAt(owner);
        if (asked == null) {
            return NONE;
        }
        switch (what) {
            case 0:
                return asked.points;
            case 1:
                return asked.luck;
            case 2:
                return asked.limit;
            case 3:
                return asked.weeksOwned;
            case 4:
                return asked.isDead ? 1 : 0;
            case 5:
                return asked.wish != null ? 1 : 0;
            default:
                return NONE;
        }
    }

    public int count(int what) {
        switch (what) {
            case 0:
                return flatCount;
            case 1:
                return ownerCount;
            case 2:
                return yearNow;
            case 3:
                return now;
            case 4:
                return giftCount;
            case 5:
                return countGifts(WAITS);
            case 6:
                return countGifts(BANKED);
            case 7:
                return reader.length;
            case 8:
                return told.heirsAreBound ? 1 : 0;
            case 9:
                return sumPoints();
            default:
                return NONE;
        }
    }

    private static boolean isWeek(int week) {
        return week >= 0 && week <= LAST_WEEK;
    }

    private static boolean isSize(int size) {
        return size >= 1 && size <= LAST_SIZE;
    }

    private static boolean canBeWished(int town, int from, int to, int size) {
        boolean isTown = town == NONE || (town >= 0 && town <= LAST_TOWN);
        return isTown && isWeek(from) && isWeek(to) && from <= to && isSize(size);
    }

    private static int numberOf(Owner owner) {
        return owner == null ? NONE : owner.number;
    }

    private Flat flatAt(int number) {
        return number >= 0 && number < flatCount ? flats[number] : null;
    }

    private Owner ownerAt(int number) {
        return number >= 0 && number < ownerCount ? owners[number] : null;
    }

    private Owner livingOwnerAt(int number) {
        Owner owner = ownerAt(number);
        return owner == null || owner.isDead ? null : owner;
    }

    private Gift giftAt(int number) {
        return number >= 0 && number < giftCount ? gifts[number] : null;
    }

    private Gift giftThatIs(int number, int state) {
        Gift gift = giftAt(number);
        return gift == null || gift.state != state ? null : gift;
    }

    private int addGift(Owner giver, Flat place, int week) {
        Gift gift = new Gift(giftCount, giver, place, week);
        gift.year = yearNow;
        gift.worth = told.worthOf(place.size, week, week - now);
        gifts[giftCount] = gift;
        giftCount++;
        place.gifts[week] = gift;
        return gift.number;
    }

    private int countGifts(int state) {
        int count = 0;
        for (int i = 0; i < giftCount; i++) {
            if (gifts[i].state == state) {
                count++;
            }
        }
        return count;
    }

    private int sumPoints() {
        int sum = 0;
        for (int i = 0; i < ownerCount; i++) {
            sum += owners[i].points;
        }
        return sum;
    }

    private void passAllWeeks(Owner before, Owner after) {
        for (int i = 0; i < flatCount; i++) {
            for (int week = 0; week < WEEKS; week++) {
                if (flats[i].owners[week] == before) {
                    flats[i].passTo(week, after);
                }
            }
        }
    }

    private void endUnusedGifts(int lastWeek) {
        for (int i = 0; i < giftCount; i++) {
            Gift gift = gifts[i];
            boolean isUnused = gift.state == WAITS || gift.state == BANKED;
            if (isUnused && gift.week <= lastWeek) {
                gift.state = PAST;
            }
        }
    }

    // LUCK changes only for those who had their turn, so the least of the rest keeps the first order.
    private Owner firstInLine() {
        Owner first = null;
        for (int i = 0; i < ownerCount; i++) {
            if (owners[i].inLine && (first == null || owners[i].luck < first.luck)) {
                first = owners[i];
            }
        }
        return first;
    }

    private Gift bestBankedFor(Owner chooser) {
        Gift best = null;
        for (int i = 0; i < giftCount; i++) {
            Gift gift = gifts[i];
            boolean canHave = gift.state == BANKED && gift.worth <= chooser.points;
            if (canHave && gift.meets(chooser.wish) && (best == null || gift.worth > best.worth)) {
                best = gift;
            }
        }
        return best;
    }

    private static final class Flat {
        final int number;
        final int town;
        final int size;
        final Owner[] owners = new Owner[WEEKS];
        final boolean[] shut = new boolean[WEEKS];
        /** The latest GIFT of each WEEK in this YEAR; an earlier one of it is BACK. */
        final Gift[] gifts = new Gift[WEEKS];

        Flat(int number, int town, int size) {
            this.number = number;
            this.town = town;
            this.size = size;
        }

        /** The one place where WEEKS change hands, so that each OWNER's count of them stays true. */
        void passTo(int week, Owner next) {
            if (!isWeek(week)) {
                return;
            }
            Owner before = owners[week];
            if (before != null) {
                before.weeksOwned--;
            }
            if (next != null) {
                next.weeksOwned++;
            }
            owners[week] = next;
        }

        void beginYear() {
            for (int week = 0; week < WEEKS; week++) {
                shut[week] = false;
                gifts[week] = null;
            }
        }
    }

    private static final class Owner {
        final int number;
        final int limit;
        int points = 0;
        int luck = 0;
        int weeksOwned = 0;
        boolean isDead = false;
        boolean inLine = false;
        Wish wish = null;

        Owner(int number, int limit) {
            this.number = number;
            this.limit = limit;
        }
    }

    private static final class Wish {
        final int town;
        final int from;
        final int to;
        final int leastSize;

        Wish(int town, int from, int to, int leastSize) {
            this.town = town;
            this.from = from;
            this.to = to;
            this.leastSize = leastSize;
        }
    }

    private static final class Gift {
        final int number;
        final Owner owner;
        final Flat flat;
        final int week;
        int year = 0;
        int worth = 0;
        int state = WAITS;
        Wish wish = null;
        Gift got = null;
        Owner getter = null;

        Gift(int number, Owner owner, Flat flat, int week) {
            this.number = number;
            this.owner = owner;
            this.flat = flat;
            this.week = week;
        }

        boolean isGot() {
            return state == SWAPPED || state == TAKEN;
        }

        /** Whether the WEEK is not with its OWNER. */
        boolean isOut() {
            return state == WAITS || state == BANKED || isGot();
        }

        boolean meets(Wish wished) {
            if (wished == null) {
                return false;
            }
            boolean isTown = wished.town == NONE || wished.town == flat.town;
            return isTown && week >= wished.from && week <= wished.to && flat.size >= wished.leastSize;
        }

        void goTo(Owner taker) {
            state = TAKEN;
            getter = taker;
            taker.points -= worth;
        }

        void endByShutting() {
            if (isGot()) {
                if (getter != null) {
                    getter.points += worth;
                }
                state = PAST;
                return;
            }
            if (state == BANKED) {
                owner.points = Math.max(0, owner.points - worth);
            }
            state = BACK;
        }
    }

    /** What a TEXT of RULES tells. */
    private static final class Rules {
        final int[] season = new int[WEEKS];
        final int[] sizeAdds = new int[LAST_SIZE + 1];
        /** What early adds by WEEKS ahead; NONE where nothing is told. */
        final int[] earlyAdds = new int[WEEKS];
        boolean heirsAreBound = false;
        int statements = 0;

        Rules() {
            Arrays.fill(earlyAdds, NONE);
        }

        void clear() {
            Arrays.fill(season, 0);
            Arrays.fill(sizeAdds, 0);
            Arrays.fill(earlyAdds, NONE);
            heirsAreBound = false;
            statements = 0;
        }

        void setSeason(int from, int to, int value) {
            for (int week = Math.max(from, 0); week <= to && week < WEEKS; week++) {
                season[week] = value;
            }
        }

        void setSize(int size, int value) {
            if (isSize(size)) {
                sizeAdds[size] = value;
            }
        }

        void setEarly(int ahead, int value) {
            if (isWeek(ahead)) {
                earlyAdds[ahead] = value;
            }
        }

        int worthOf(int size, int week, int ahead) {
            if (!isSize(size) || !isWeek(week)) {
                return 0;
            }
            return season[week] + sizeAdds[size] + earlyOf(ahead);
        }

        private int earlyOf(int ahead) {
            for (int i = Math.min(ahead, LAST_WEEK); i >= 0; i--) {
                if (earlyAdds[i] != NONE) {
                    return earlyAdds[i];
                }
            }
            return 0;
        }
    }

    /** The TAPE, and the reading of it TOKEN by TOKEN up to its first FAULT. */
    private static final class Reader {
        static final int NO_FAULT = 0;
        private static final int NO_WAY_ON = 1;
        private static final int BAD_NUMBER = 2;
        private static final int TOO_MANY = 3;

        private static final int MOST_STATEMENTS = 30;
        private static final int MOST_DIGITS = 4;
        private static final int MOST_NUMBER = 9999;

        private static final int END = 0;
        private static final int WORD = 1;
        private static final int NUMBER = 2;
        private static final int SIGN = 3;
        private static final int ODD = 4;

        private static final int NO_KIND = 0;
        private static final int SEASON = 1;
        private static final int SIZE = 2;
        private static final int EARLY = 3;
        private static final int HEIRS = 4;

        final int[] tape = new int[MOST_BYTES];
        int length = 0;
        int fault = NO_FAULT;
        int faultPlace = NONE;
        private int at = 0;
        private int token = END;
        private int tokenStart = 0;
        private int tokenNumber = 0;

        void addBytes(int four) {
            for (int shift = 24; shift >= 0; shift -= 8) {
                if (length < MOST_BYTES) {
                    tape[length] = (four >>> shift) & 255;
                    length++;
                }
            }
        }

        void readInto(Rules into) {
            into.clear();
            fault = NO_FAULT;
            faultPlace = NONE;
            at = 0;
            readToken();
            for (int i = 0; i <= MOST_STATEMENTS && token != END && fault == NO_FAULT; i++) {
                readStatement(into);
            }
        }

        private void readStatement(Rules into) {
            int kind = statementKind();
            if (kind == NO_KIND) {
                blame(NO_WAY_ON);
                return;
            }
            if (into.statements >= MOST_STATEMENTS) {
                blame(TOO_MANY);
                return;
            }
            readToken();
            readRest(into, kind);
            expectSign();
            into.statements++;
        }

        private int statementKind() {
            if (isWord("season")) {
                return SEASON;
            }
            if (isWord("size")) {
                return SIZE;
            }
            if (isWord("early")) {
                return EARLY;
            }
            return isWord("heirs") ? HEIRS : NO_KIND;
        }

        private void readRest(Rules into, int kind) {
            switch (kind) {
                case SEASON:
                    int from = expectNumber(0, LAST_WEEK);
                    int to = expectNumber(from, LAST_WEEK);
                    into.setSeason(from, to, expectNumber(0, MOST_NUMBER));
                    break;
                case SIZE:
                    int size = expectNumber(1, LAST_SIZE);
                    into.setSize(size, expectNumber(0, MOST_NUMBER));
                    break;
                case EARLY:
                    int ahead = expectNumber(0, LAST_WEEK);
                    into.setEarly(ahead, expectNumber(0, MOST_NUMBER));
                    break;
                default:
                    into.heirsAreBound = expectBound();
                    break;
            }
        }

        /** After a FAULT nothing more is read, so that the first one stays. */
        private int expectNumber(int least, int most) {
            if (fault != NO_FAULT) {
                return 0;
            }
            if (token != NUMBER) {
                blame(NO_WAY_ON);
                return 0;
            }
            int number = tokenNumber;
            if (number < least || number > most) {
                blame(BAD_NUMBER);
                return 0;
            }
            readToken();
            return number;
        }

        private boolean expectBound() {
            boolean isBound = isWord("bound");
            if (!isBound && !isWord("free")) {
                blame(NO_WAY_ON);
                return false;
            }
            readToken();
            return isBound;
        }

        private void expectSign() {
            if (fault != NO_FAULT) {
                return;
            }
            if (token != SIGN) {
                blame(NO_WAY_ON);
                return;
            }
            readToken();
        }

        private void blame(int kind) {
            fault = kind;
            faultPlace = tokenStart;
        }

        private void readToken() {
            while (at < length && isBlank(tape[at])) {
                at++;
            }
            tokenStart = at;
            if (at >= length) {
                token = END;
            } else if (isLetter(tape[at])) {
                token = WORD;
                skipLetters();
            } else if (isDigit(tape[at])) {
                readDigits();
            } else {
                token = tape[at] == ';' ? SIGN : ODD;
                at++;
            }
        }

        private void skipLetters() {
            while (at < length && isLetter(tape[at])) {
                at++;
            }
        }

        private void readDigits() {
            tokenNumber = 0;
            while (at < length && isDigit(tape[at])) {
                if (at - tokenStart < MOST_DIGITS) {
                    tokenNumber = tokenNumber * 10 + (tape[at] - '0');
                }
                at++;
            }
            token = at - tokenStart <= MOST_DIGITS ? NUMBER : ODD;
        }

        private boolean isWord(String word) {
            if (token != WORD || at - tokenStart != word.length()) {
                return false;
            }
            for (int i = 0; i < word.length(); i++) {
                if (tape[tokenStart + i] != word.charAt(i)) {
                    return false;
                }
            }
            return true;
        }

        private static boolean isBlank(int sign) {
            return sign == 32 || sign == 10;
        }

        private static boolean isLetter(int sign) {
            return sign >= 'a' && sign <= 'z';
        }

        private static boolean isDigit(int sign) {
            return sign >= '0' && sign <= '9';
        }
    }

    /**
     * The best RINGS among at most nine members. Sets of members are bit masks. Who gets whom is one
     * number of nine digits, member 0's digit the highest, each the place of the one got and 9 for none:
     * so of two such numbers the lesser is the one that comes first, GIFT by GIFT.
     */
    private static final class RingSearch {
        private static final int[] DIGIT_WORTH = {100000000, 10000000, 1000000, 100000, 10000, 1000, 100, 10, 1};
        private static final int GETS_NONE = 9;
        private static final int NO_WAY = 2147483647;
        private static final int SETS = 1 << MOST_WAITING;

        private final Gift[] members = new Gift[MOST_WAITING];
        private int size = 0;
        private final int[] suits = new int[MOST_WAITING];
        /** By set and last member: the first path from the set's least member through all of it. */
        private final int[] paths = new int[SETS * MOST_WAITING];
        /** By set: the first single ring through all of it. */
        private final int[] ringOf = new int[SETS];
        /** By set: the first way to part all of it into rings. */
        private final int[] wayOf = new int[SETS];
        private int best = 0;

        void clear() {
            size = 0;
            best = 0;
        }

        void add(Gift gift) {
            if (size < MOST_WAITING) {
                members[size] = gift;
                size++;
            }
        }

        void findBest(int mostSteps) {
            int sets = 1 << size;
            findSuiting();
            forgetBefore(sets);
            for (int i = 0; i < size; i++) {
                paths[(1 << i) * MOST_WAITING + i] = 0;
            }
            for (int set = 1; set < sets; set++) {
                goOnFrom(set, mostSteps);
            }
            for (int set = 1; set < sets; set++) {
                wayOf[set] = firstWay(set);
                if (wayOf[set] != NO_WAY && isBetter(set)) {
                    best = set;
                }
            }
        }

        /** Does what findBest found: how many are SWAPPED. */
        int swapBest() {
            int way = wayOf[best];
            for (int i = MOST_WAITING - 1; i >= 0; i--) {
                if (has(best, i)) {
                    swap(members[i], way % 10);
                }
                way /= 10;
            }
            return Integer.bitCount(best);
        }

        private void swap(Gift gift, int got) {
            if (got >= 0 && got < size) {
                gift.state = SWAPPED;
                gift.got = members[got];
                members[got].getter = gift.owner;
            }
        }

        private void forgetBefore(int sets) {
            for (int i = 0; i < sets * MOST_WAITING; i++) {
                paths[i] = NO_WAY;
            }
            for (int set = 0; set < sets; set++) {
                ringOf[set] = NO_WAY;
            }
        }

        /** How many members are less than the least of the set: its own place. */
        private static int leastOf(int set) {
            return Integer.bitCount((set & -set) - 1);
        }

        private static boolean has(int set, int member) {
            return (set >> member & 1) == 1;
        }

        private void findSuiting() {
            for (int i = 0; i < size; i++) {
                suits[i] = 0;
                for (int j = 0; j < size; j++) {
                    if (i != j && members[j].meets(members[i].wish)) {
                        suits[i] |= 1 << j;
                    }
                }
            }
        }

        private void goOnFrom(int set, int mostSteps) {
            int first = leastOf(set);
            int steps = Integer.bitCount(set);
            if (steps > mostSteps) {
                return;
            }
            for (int last = first; last < size; last++) {
                int path = paths[set * MOST_WAITING + last];
                if (path != NO_WAY) {
                    if (has(suits[last], first)) {
                        ringOf[set] = Math.min(ringOf[set], path + first * DIGIT_WORTH[last]);
                    }
                    lengthen(set, first, last);
                }
            }
        }

        private void lengthen(int set, int first, int last) {
            int path = paths[set * MOST_WAITING + last];
            int open = suits[last] & ~set;
            for (int next = first + 1; next < size; next++) {
                if (has(open, next)) {
                    int at = (set | 1 << next) * MOST_WAITING + next;
                    paths[at] = Math.min(paths[at], path + next * DIGIT_WORTH[last]);
                }
            }
        }

        /** All of it in one ring, or its least member's ring and a rest: each rest in turn, from the greatest down. */
        private int firstWay(int set) {
            int others = set & (set - 1);
            int first = ringOf[set];
            for (int rest = others; rest > 0; rest = (rest - 1) & others) {
                int ring = ringOf[set & ~rest];
                if (ring != NO_WAY && wayOf[rest] != NO_WAY) {
                    first = Math.min(first, ring + wayOf[rest]);
                }
            }
            return first;
        }

        private boolean isBetter(int set) {
            int more = Integer.bitCount(set) - Integer.bitCount(best);
            if (more != 0) {
                return more > 0;
            }
            int dearer = sumWorth(set) - sumWorth(best);
            if (dearer != 0) {
                return dearer > 0;
            }
            return wholeWay(set) < wholeWay(best);
        }

        private int sumWorth(int set) {
            int sum = 0;
            for (int i = 0; i < size; i++) {
                if (has(set, i)) {
                    sum += members[i].worth;
                }
            }
            return sum;
        }

        private int wholeWay(int set) {
            int way = wayOf[set];
            for (int i = 0; i < size; i++) {
                if (!has(set, i)) {
                    way += GETS_NONE * DIGIT_WORTH[i];
                }
            }
            return way;
        }
    }

    /**
     * FEES as they would come, of the OWNERS who live. One without WEEKS leaves like the others, as the
     * document says it of all OWNERS, but never counts as one who stays.
     */
    private static final class FeeRounds {
        private final int[] limits = new int[MOST_OWNERS];
        private final int[] owned = new int[MOST_OWNERS];
        private final boolean[] left = new boolean[MOST_OWNERS];
        private int size = 0;
        int fee = 0;
        int roundsLeft = 0;

        void clear() {
            size = 0;
            fee = 0;
            roundsLeft = 0;
        }

        void add(int limit, int weeks) {
            if (size < MOST_OWNERS) {
                limits[size] = limit;
                owned[size] = weeks;
                left[size] = false;
                size++;
            }
        }

        void reckon(int cost) {
            for (int round = 0; round <= MOST_OWNERS; round++) {
                int weeks = countOwned();
                if (weeks <= 0) {
                    fee = 0;
                    return;
                }
                fee = (cost + weeks - 1) / weeks;
                if (!someLeave()) {
                    return;
                }
                roundsLeft++;
            }
        }

        int countStaying() {
            int count = 0;
            for (int i = 0; i < size; i++) {
                if (!left[i] && owned[i] > 0) {
                    count++;
                }
            }
            return count;
        }

        private int countOwned() {
            int count = 0;
            for (int i = 0; i < size; i++) {
                if (!left[i]) {
                    count += owned[i];
                }
            }
            return count;
        }

        private boolean someLeave() {
            boolean some = false;
            for (int i = 0; i < size; i++) {
                if (!left[i] && limits[i] < fee) {
                    left[i] = true;
                    some = true;
                }
            }
            return some;
        }
    }
}
