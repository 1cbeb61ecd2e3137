import java.util.Arrays;

/** People whose sleeves hold so many slips, and the askings that they promise, keep, break or hand on. */
public final class SleeveSlips {
    public static final int BAD = -1, STATE = -2, FULL = -3, NONE = -9;
    public static final int NO = -1000000;

    private static final int NOT_SO_MANY = -5;
    private static final int FAULT_BASE = -10;
    private static final int MAX_TEXT = 300;
    private static final int MAX_PEOPLE = 4;
    private static final int MAX_ROOM = 5;
    private static final int MAX_ASKINGS = 8;
    private static final int MAX_HANGS = 8;
    private static final int MAX_WORK = 3;
    private static final int MAX_PRICE = 9;
    private static final int MAX_UNITS = 9;
    private static final int MAX_WORTH = 99;
    private static final int MAX_DEEDS = 12;
    private static final int LAST_DAY = 9;
    private static final int SORTS = 3;
    private static final int MAX_TENTHS = 10;
    private static final int MAX_SORT_DAYS = 3;
    private static final int MAX_CHANCE_DAYS = 6;
    private static final int IMAGES = 2;
    private static final int MAX_GREAT = 99;
    private static final int MUCH_WORK = 99;
    private static final int ABSENT = -1;

    private static final int OPEN = 0, PINNED = 1, KEPT = 2, GONE = 3;

    private final Text text;
    private Town told;
    private Town spare;
    private final Now present;
    private final Now[] images;
    private final boolean[] imageKept;
    private final Chances chances;
    private final Chooser chooser;
    private final Rings rings;
    private long traced;

    public SleeveSlips() {
        text = new Text();
        told = new Town();
        spare = new Town();
        present = new Now();
        images = new Now[IMAGES];
        for (int i = 0; i < IMAGES; i++) {
            images[i] = new Now();
        }
        imageKept = new boolean[IMAGES];
        chances = new Chances();
        chooser = new Chooser();
        rings = new Rings();
    }

    // ---- the town

    public int type(long v, int n) {
        if (n < 1 || n > 8) {
            return BAD;
        }
        if (text.length + n > MAX_TEXT) {
            return FULL;
        }
        text.append(v, n);
        return text.length;
    }

    public int clear() {
        int had = text.length;
        text.length = 0;
        return had;
    }

    public int town() {
        int items = text.readAll(spare);
        if (items < 0) {
            return items;
        }
        // The spare is filled first, so that a fault leaves all as it was.
        Town old = told;
        told = spare;
        spare = old;
        text.length = 0;
        present.beginAnew();
        for (int i = 0; i < IMAGES; i++) {
            imageKept[i] = false;
        }
        return items;
    }

    public int person(int p, int what) {
        if (!told.hasPerson(p)) {
            return BAD;
        }
        switch (what) {
            case 0: return told.room[p];
            case 1: return told.work[p];
            case 2: return told.price[p];
            case 3: return present.slipCount[p];
            default: return BAD;
        }
    }

    public int asking(int a, int what) {
        if (!told.hasAsking(a)) {
            return BAD;
        }
        switch (what) {
            case 0: return told.whom[a];
            case 1: return told.askedOn[a];
            case 2: return told.units[a];
            case 3: return told.worth[a];
            case 4: return told.due[a];
            case 5: return present.became[a];
            case 6: return present.left[a];
            case 7: return present.became[a] == PINNED ? present.sleeve[a] : NONE;
            default: return BAD;
        }
    }

    public int slip(int p, int i) {
        if (!told.hasPerson(p) || i < 0) {
            return BAD;
        }
        return i < present.slipCount[p] ? present.slipAt(p, i) : NOT_SO_MANY;
    }

    // ---- a day

    public int promise(int a) {
        if (!told.hasAsking(a)) {
            return BAD;
        }
        if (present.became[a] != OPEN || told.askedOn[a] != present.today) {
            return STATE;
        }
        int p = told.whom[a];
        if (!hasRoom(p)) {
            return FULL;
        }
        present.remember(a);
        present.pin(a, p, present.slipCount[p], told.units[a]);
        return present.slipCount[p];
    }

    public int letOff(int a) {
        if (!told.hasAsking(a)) {
            return BAD;
        }
        if (present.became[a] != PINNED) {
            return STATE;
        }
        int left = present.left[a];
        present.remember(a);
        present.unpin(a, GONE);
        return left;
    }

    public int breaks(int a) {
        if (!told.hasAsking(a)) {
            return BAD;
        }
        if (present.became[a] != PINNED) {
            return STATE;
        }
        present.remember(a);
        present.unpin(a, GONE);
        present.lost += told.worth[a];
        return told.worth[a];
    }

    public int hand(int a, int p) {
        if (!told.hasAsking(a) || !told.hasPerson(p)) {
            return BAD;
        }
        if (present.became[a] != PINNED || present.sleeve[a] == p) {
            return STATE;
        }
        if (!hasRoom(p)) {
            return FULL;
        }
        int left = present.left[a];
        present.remember(a);
        present.unpin(a, GONE);
        present.pin(a, p, present.slipCount[p], left);
        return present.slipCount[p];
    }

    public int undo() {
        if (present.deeds <= 0) {
            return STATE;
        }
        present.undoLatest();
        return present.deeds;
    }

    public int day() {
        if (present.today > LAST_DAY) {
            return STATE;
        }
        return present.goBy(told);
    }

    public int now(int what) {
        switch (what) {
            case 0: return present.today;
            case 1: return present.won;
            case 2: return present.lost;
            case 3: return present.allSlips();
            case 4: return present.deeds;
            default: return BAD;
        }
    }

    // ---- what to take

    public int take(int p, int what) {
        if (!told.hasPerson(p) || what < 0 || what > 1) {
            return BAD;
        }
        chooser.choose(told, p, present.today, told.room[p], told.work[p]);
        return what == 0 ? chooser.bestWorth : chooser.bestSet;
    }

    public int bound(int p, int what) {
        if (!told.hasPerson(p) || what < 0 || what > 1) {
            return BAD;
        }
        int room = what == 0 ? MAX_ASKINGS : told.room[p];
        int work = what == 0 ? told.work[p] : MUCH_WORK;
        chooser.choose(told, p, present.today, room, work);
        return chooser.bestWorth;
    }

    public int sort(int j, int tenths, int worth, int days) {
        if (j < 0 || j >= SORTS || tenths < 0 || tenths > MAX_TENTHS) {
            return BAD;
        }
        if (worth < 1 || worth > MAX_WORTH || days < 1 || days > MAX_SORT_DAYS) {
            return BAD;
        }
        if (chances.allTenths() - chances.tenths[j] + tenths > MAX_TENTHS) {
            return BAD;
        }
        chances.tell(j, tenths, worth, days);
        return chances.allTenths();
    }

    public long expected(int p, int n, int what) {
        if (!told.hasPerson(p) || n < 0 || n > MAX_CHANCE_DAYS || what < 0 || what > 1) {
            return BAD;
        }
        chances.fillMeans(n, told.room[p]);
        chances.reduce(n);
        return what == 0 ? chances.upper : chances.lower;
    }

    public int wise(int j, int n, int f) {
        if (j < 0 || j >= SORTS || !chances.known[j]) {
            return BAD;
        }
        if (n < 1 || n > MAX_CHANCE_DAYS || f < 1 || f > MAX_ROOM) {
            return BAD;
        }
        chances.fillMeans(n - 1, f);
        return chances.isWorthTaking(j, n) ? 1 : 0;
    }

    // ---- rings, parts

    public int ring() {
        return rings.isRingWithout(told, 0) ? 1 : 0;
    }

    public int order(int i) {
        if (i < 0) {
            return BAD;
        }
        if (rings.isRingWithout(told, 0)) {
            return NONE;
        }
        return i < told.askings ? rings.row[i] : NOT_SO_MANY;
    }

    public int fewest(int what) {
        if (what < 0 || what > 1) {
            return BAD;
        }
        int set = rings.smallestSetOff(told);
        return what == 0 ? Integer.bitCount(set) : set;
    }

    public int great(int units, int due, int what) {
        if (units < 1 || units > MAX_GREAT || due < present.today || due > LAST_DAY || what < 0 || what > 1) {
            return BAD;
        }
        int days = due - present.today + 1;
        int open = units;
        int cost = 0;
        int takers = 0;
        int asked = 0;
        for (int turn = 0; turn < told.people && open > 0; turn++) {
            int p = cheapestBut(asked);
            asked |= 1 << p;
            int part = Math.min(open, spareUnits(p, days));
            if (part > 0) {
                takers |= 1 << p;
                cost += part * told.price[p];
                open -= part;
            }
        }
        if (open > 0) {
            return NONE;
        }
        return what == 0 ? cost : takers;
    }

    // ---- kinds, images

    public int rate(int kind, int p) {
        if (!told.hasPerson(p)) {
            return NO;
        }
        switch (kind) {
            case 0: return rateOfPerson(p);
            case 1: return rateOfFirst(p);
            case 2: return rateOfShort(p);
            case 3: return rateOfBest(p);
            case 4: return rateOfMiller(p);
            case 5: return rateOfTailor(p);
            default: return NO;
        }
    }

    public int keep(int image) {
        if (image < 0 || image >= IMAGES) {
            return BAD;
        }
        images[image].becomeAs(present);
        imageKept[image] = true;
        return present.today;
    }

    public int back(int image) {
        if (image < 0 || image >= IMAGES) {
            return BAD;
        }
        if (!imageKept[image]) {
            return STATE;
        }
        present.becomeAs(images[image]);
        return present.today;
    }

    public int count(int what) {
        switch (what) {
            case 0: return told.people;
            case 1: return told.askings;
            case 2: return told.hangs;
            case 3: return chances.allTenths();
            case 4: return text.length;
            default: return BAD;
        }
    }

    public long trace() {
        return traced;
    }

    private boolean hasRoom(int p) {
        return present.slipCount[p] < told.room[p];
    }

    /** Of the people who are not in the bits of asked, the one with the least price, the least number first. */
    private int cheapestBut(int asked) {
        int best = 0;
        int bestPrice = MAX_PRICE + 1;
        for (int p = 0; p < told.people; p++) {
            if ((asked >> p & 1) == 0 && told.price[p] < bestPrice) {
                best = p;
                bestPrice = told.price[p];
            }
        }
        return best;
    }

    private int spareUnits(int p, int days) {
        if (!hasRoom(p)) {
            return 0;
        }
        return Math.max(0, told.work[p] * days - present.leftOnSleeve(p));
    }

    private int rateOfPerson(int p) {
        traced += 1;
        return told.room[p] - present.slipCount[p];
    }

    private int rateOfFirst(int p) {
        traced += 10;
        return rateOfPerson(p) + told.work[p];
    }

    private int rateOfShort(int p) {
        traced += 100;
        return rateOfPerson(p) - present.leftOnSleeve(p);
    }

    private int rateOfBest(int p) {
        traced += 1000;
        return 2 * rateOfFirst(p);
    }

    private int rateOfMiller(int p) {
        traced += 10000;
        return rateOfShort(p) + p;
    }

    private int rateOfTailor(int p) {
        traced += 100000;
        return rateOfPerson(p) + present.today;
    }

    /** What a text tells; the days change nothing of it. */
    private static final class Town {
        int people;
        final int[] room = new int[MAX_PEOPLE];
        final int[] work = new int[MAX_PEOPLE];
        final int[] price = new int[MAX_PEOPLE];
        int askings;
        final int[] whom = new int[MAX_ASKINGS];
        final int[] askedOn = new int[MAX_ASKINGS];
        final int[] units = new int[MAX_ASKINGS];
        final int[] worth = new int[MAX_ASKINGS];
        final int[] due = new int[MAX_ASKINGS];
        int hangs;
        /** For each asking the bits of those on which it hangs. */
        final int[] hangsOn = new int[MAX_ASKINGS];

        void forgetAll() {
            people = 0;
            askings = 0;
            hangs = 0;
            Arrays.fill(hangsOn, 0);
        }

        boolean hasPerson(int p) {
            return p >= 0 && p < people;
        }

        boolean hasAsking(int a) {
            return a >= 0 && a < askings;
        }

        void addPerson(int[] numbers) {
            room[people] = numbers[0];
            work[people] = numbers[1];
            price[people] = numbers[2];
            people++;
        }

        void addAsking(int[] numbers) {
            whom[askings] = numbers[0];
            askedOn[askings] = numbers[1];
            units[askings] = numbers[2];
            worth[askings] = numbers[3];
            due[askings] = numbers[4];
            askings++;
        }

        void addHang(int[] numbers) {
            hangsOn[numbers[0]] |= 1 << numbers[1];
            hangs++;
        }
    }

    /** The bytes that were typed; they are read token by token into a town. */
    private static final class Text {
        private static final int END = 0, SEMICOLON = 1, NUMBER = 2, WORD = 3, WRONG = 4;
        private static final int MAX_NUMBER = 99;

        private final byte[] bytes = new byte[MAX_TEXT];
        int length;
        /** Where the next token is looked for. */
        private int place;
        /** Where the latest token begins: it is the fault, if that token can't stand there. */
        private int start;
        private int token;
        private int value;
        private final int[] numbers = new int[5];

        /** The lowest n bytes, for which there is place. */
        void append(long v, int n) {
            for (int i = n - 1; i >= 0; i--) {
                bytes[length] = (byte) (v >>> (8 * i));
                length++;
            }
        }

        /** How many items there are, or -10 less the fault. */
        int readAll(Town into) {
            place = 0;
            into.forgetAll();
            for (int items = 0; items <= MAX_TEXT; items++) {
                readToken();
                if (token == END) {
                    return items;
                }
                boolean stands = isWord("person") ? readPerson(into)
                        : isWord("ask") ? readAsk(into)
                        : isWord("hangs") && readHangs(into);
                if (!stands) {
                    break;
                }
            }
            return FAULT_BASE - start;
        }

        private boolean readPerson(Town into) {
            if (into.people >= MAX_PEOPLE) {
                return false;
            }
            if (!isNumber(0, 1, MAX_ROOM) || !isNumber(1, 1, MAX_WORK) || !isNumber(2, 0, MAX_PRICE) || !isSemicolon()) {
                return false;
            }
            into.addPerson(numbers);
            return true;
        }

        private boolean readAsk(Town into) {
            if (into.askings >= MAX_ASKINGS) {
                return false;
            }
            if (!isNumber(0, 0, into.people - 1) || !isNumber(1, 0, LAST_DAY) || !isNumber(2, 1, MAX_UNITS)) {
                return false;
            }
            if (!isNumber(3, 1, MAX_WORTH) || !isNumber(4, numbers[1], LAST_DAY) || !isSemicolon()) {
                return false;
            }
            into.addAsking(numbers);
            return true;
        }

        private boolean readHangs(Town into) {
            if (into.hangs >= MAX_HANGS) {
                return false;
            }
            if (!isNumber(0, 0, into.askings - 1) || !isNumber(1, 0, into.askings - 1)) {
                return false;
            }
            if (numbers[0] == numbers[1] || !isSemicolon()) {
                return false;
            }
            into.addHang(numbers);
            return true;
        }

        /** Whether the next token is a number from low to high; it becomes the i-th of the item's numbers. */
        private boolean isNumber(int i, int low, int high) {
            readToken();
            if (token != NUMBER || value < low || value > high) {
                return false;
            }
            numbers[i] = value;
            return true;
        }

        private boolean isSemicolon() {
            readToken();
            return token == SEMICOLON;
        }

        private void readToken() {
            while (place < length && bytes[place] == ' ') {
                place++;
            }
            start = place;
            if (place >= length) {
                token = END;
            } else if (bytes[place] == ';') {
                place++;
                token = SEMICOLON;
            } else if (isDigit(bytes[place])) {
                readDigits();
            } else {
                readLetters();
            }
        }

        private void readDigits() {
            value = 0;
            while (place < length && isDigit(bytes[place])) {
                // Held just above the most that a number may be, for a long row of digits would wrap around.
                value = Math.min(value * 10 + bytes[place] - '0', MAX_NUMBER + 1);
                place++;
            }
            boolean zeroAhead = bytes[start] == '0' && place - start > 1;
            token = zeroAhead || value > MAX_NUMBER ? WRONG : NUMBER;
        }

        private void readLetters() {
            while (place < length && isLetter(bytes[place])) {
                place++;
            }
            token = place > start ? WORD : WRONG;
        }

        private boolean isWord(String word) {
            if (token != WORD || place - start != word.length()) {
                return false;
            }
            for (int i = 0; i < word.length(); i++) {
                if (bytes[start + i] != word.charAt(i)) {
                    return false;
                }
            }
            return true;
        }

        private static boolean isDigit(int b) {
            return b >= '0' && b <= '9';
        }

        private static boolean isLetter(int b) {
            return b >= 'a' && b <= 'z';
        }
    }

    /** All that the days and the deeds change, and that an image keeps. */
    private static final class Now {
        /** A deed is a row of these: what an asking was ahead of it. */
        private static final int DEED_ASKING = 0, DEED_SLEEVE = 1, DEED_PLACE = 2, DEED_LEFT = 3, DEED_LOST = 4;
        private static final int DEED_SIZE = 5;

        int today;
        int won;
        int lost;
        final int[] became = new int[MAX_ASKINGS];
        /** 0 for what is no slip. */
        final int[] left = new int[MAX_ASKINGS];
        /** ABSENT for what is no slip. */
        final int[] sleeve = new int[MAX_ASKINGS];
        final int[] slipCount = new int[MAX_PEOPLE];
        private final int[] slips = new int[MAX_PEOPLE * MAX_ROOM];
        int deeds;
        private final int[] deedRows = new int[MAX_DEEDS * DEED_SIZE];

        Now() {
            Arrays.fill(sleeve, ABSENT);
        }

        void beginAnew() {
            today = 0;
            won = 0;
            lost = 0;
            deeds = 0;
            Arrays.fill(became, OPEN);
            Arrays.fill(left, 0);
            Arrays.fill(sleeve, ABSENT);
            Arrays.fill(slipCount, 0);
        }

        void becomeAs(Now other) {
            today = other.today;
            won = other.won;
            lost = other.lost;
            deeds = other.deeds;
            System.arraycopy(other.became, 0, became, 0, MAX_ASKINGS);
            System.arraycopy(other.left, 0, left, 0, MAX_ASKINGS);
            System.arraycopy(other.sleeve, 0, sleeve, 0, MAX_ASKINGS);
            System.arraycopy(other.slipCount, 0, slipCount, 0, MAX_PEOPLE);
            System.arraycopy(other.slips, 0, slips, 0, MAX_PEOPLE * MAX_ROOM);
            System.arraycopy(other.deedRows, 0, deedRows, 0, MAX_DEEDS * DEED_SIZE);
        }

        int slipAt(int p, int i) {
            return slips[p * MAX_ROOM + i];
        }

        int allSlips() {
            int all = 0;
            for (int p = 0; p < MAX_PEOPLE; p++) {
                all += slipCount[p];
            }
            return all;
        }

        int leftOnSleeve(int p) {
            int all = 0;
            for (int i = 0; i < slipCount[p]; i++) {
                all += left[slipAt(p, i)];
            }
            return all;
        }

        /** An asking becomes the slip at a place of a sleeve that has room. */
        void pin(int a, int p, int at, int units) {
            int base = p * MAX_ROOM;
            for (int i = slipCount[p]; i > at; i--) {
                slips[base + i] = slips[base + i - 1];
            }
            slips[base + at] = a;
            slipCount[p]++;
            became[a] = PINNED;
            sleeve[a] = p;
            left[a] = units;
        }

        void unpin(int a, int becomes) {
            int p = sleeve[a];
            int base = p * MAX_ROOM;
            slipCount[p]--;
            for (int i = placeOf(a); i < slipCount[p]; i++) {
                slips[base + i] = slips[base + i + 1];
            }
            became[a] = becomes;
            sleeve[a] = ABSENT;
            left[a] = 0;
        }

        private int placeOf(int a) {
            int base = sleeve[a] * MAX_ROOM;
            for (int i = 0; i < MAX_ROOM; i++) {
                if (slips[base + i] == a) {
                    return i;
                }
            }
            return MAX_ROOM;
        }

        /** Notes what an asking is ahead of a deed; the oldest deed is lost, if there are too many. */
        void remember(int a) {
            if (deeds == MAX_DEEDS) {
                deeds--;
                System.arraycopy(deedRows, DEED_SIZE, deedRows, 0, deeds * DEED_SIZE);
            }
            int row = deeds * DEED_SIZE;
            deedRows[row + DEED_ASKING] = a;
            deedRows[row + DEED_SLEEVE] = sleeve[a];
            deedRows[row + DEED_PLACE] = became[a] == PINNED ? placeOf(a) : 0;
            deedRows[row + DEED_LEFT] = left[a];
            deedRows[row + DEED_LOST] = lost;
            deeds++;
        }

        void undoLatest() {
            deeds--;
            int row = deeds * DEED_SIZE;
            int a = deedRows[row + DEED_ASKING];
            int p = deedRows[row + DEED_SLEEVE];
            if (became[a] == PINNED) {
                unpin(a, OPEN);
            }
            if (p != ABSENT) {
                pin(a, p, deedRows[row + DEED_PLACE], deedRows[row + DEED_LEFT]);
            }
            lost = deedRows[row + DEED_LOST];
        }

        /** A day goes by: how many were kept. */
        int goBy(Town town) {
            int kept = 0;
            for (int p = 0; p < town.people; p++) {
                kept += workOf(town, p);
            }
            for (int a = 0; a < town.askings; a++) {
                if (became[a] == PINNED && town.due[a] == today) {
                    unpin(a, GONE);
                    lost += town.worth[a];
                } else if (became[a] == OPEN && town.askedOn[a] == today) {
                    became[a] = GONE;
                }
            }
            deeds = 0;
            today++;
            return kept;
        }

        private int workOf(Town town, int p) {
            int kept = 0;
            for (int unit = 0; unit < town.work[p]; unit++) {
                int a = firstToWorkOn(town, p);
                if (a == ABSENT) {
                    return kept;
                }
                left[a]--;
                if (left[a] == 0) {
                    unpin(a, KEPT);
                    won += town.worth[a];
                    kept++;
                }
            }
            return kept;
        }

        private int firstToWorkOn(Town town, int p) {
            int kept = allKept(town);
            for (int i = 0; i < slipCount[p]; i++) {
                int a = slipAt(p, i);
                if ((town.hangsOn[a] & ~kept) == 0) {
                    return a;
                }
            }
            return ABSENT;
        }

        private int allKept(Town town) {
            int bits = 0;
            for (int a = 0; a < town.askings; a++) {
                if (became[a] == KEPT) {
                    bits |= 1 << a;
                }
            }
            return bits;
        }
    }

    /** Which askings to take, so that all of them are kept and are worth most. */
    private static final class Chooser {
        int bestWorth;
        int bestSet;
        private final int[] left = new int[MAX_ASKINGS];

        void choose(Town town, int p, int from, int room, int work) {
            int his = askingsOf(town, p, from);
            bestWorth = 0;
            bestSet = 0;
            for (int set = 1; set <= his; set++) {
                if ((set & ~his) != 0) {
                    continue;
                }
                int worth = worthOf(town, set);
                if (worth > bestWorth && canBeKept(town, set, from, room, work)) {
                    bestWorth = worth;
                    bestSet = set;
                }
            }
        }

        private static int askingsOf(Town town, int p, int from) {
            int bits = 0;
            for (int a = 0; a < town.askings; a++) {
                if (town.whom[a] == p && town.askedOn[a] >= from) {
                    bits |= 1 << a;
                }
            }
            return bits;
        }

        private static int worthOf(Town town, int set) {
            int worth = 0;
            for (int a = 0; a < town.askings; a++) {
                if ((set >> a & 1) != 0) {
                    worth += town.worth[a];
                }
            }
            return worth;
        }

        private boolean canBeKept(Town town, int set, int from, int room, int work) {
            int held = 0;
            for (int d = from; d <= LAST_DAY; d++) {
                held |= promisedOn(town, set, d);
                if (Integer.bitCount(held) > room) {
                    return false;
                }
                held = workThrough(town, held, work);
                if (isAnyDue(town, held, d)) {
                    return false;
                }
            }
            return true;
        }

        private int promisedOn(Town town, int set, int d) {
            int bits = 0;
            for (int a = 0; a < town.askings; a++) {
                if ((set >> a & 1) != 0 && town.askedOn[a] == d) {
                    bits |= 1 << a;
                    left[a] = town.units[a];
                }
            }
            return bits;
        }

        /** The units of a day go to what is held; what is still held then. */
        private int workThrough(Town town, int held, int work) {
            int still = held;
            int units = work;
            // Each turn ends one slip or the day's units.
            for (int turn = 0; turn < MAX_ASKINGS && still != 0 && units > 0; turn++) {
                int a = soonestDue(town, still);
                int done = Math.min(units, left[a]);
                units -= done;
                left[a] -= done;
                if (left[a] == 0) {
                    still &= ~(1 << a);
                }
            }
            return still;
        }

        private static int soonestDue(Town town, int held) {
            int best = 0;
            int bestDue = LAST_DAY + 1;
            for (int a = 0; a < town.askings; a++) {
                if ((held >> a & 1) != 0 && town.due[a] < bestDue) {
                    best = a;
                    bestDue = town.due[a];
                }
            }
            return best;
        }

        private static boolean isAnyDue(Town town, int held, int d) {
            for (int a = 0; a < town.askings; a++) {
                if ((held >> a & 1) != 0 && town.due[a] == d) {
                    return true;
                }
            }
            return false;
        }
    }

    /**
     * Askings that come by chances. As one a day is taken at most, a morning knows at most two places that are
     * free tomorrow and one that is free the day after: its state is twice the first number, and the second one.
     */
    private static final class Chances {
        private static final int STATES = 6;
        private static final int EMPTY = 0;

        final int[] tenths = new int[SORTS];
        private final int[] worth = new int[SORTS];
        private final int[] days = new int[SORTS];
        final boolean[] known = new boolean[SORTS];
        /** By how many days are left, then by state: the mean, times 10 to the power of these days; for none it stays 0. */
        private final long[][] means = new long[MAX_CHANCE_DAYS + 1][STATES];
        long upper;
        long lower;

        void tell(int j, int ofTen, int itsWorth, int itsDays) {
            tenths[j] = ofTen;
            worth[j] = itsWorth;
            days[j] = itsDays;
            known[j] = true;
        }

        int allTenths() {
            int all = 0;
            for (int j = 0; j < SORTS; j++) {
                all += tenths[j];
            }
            return all;
        }

        void fillMeans(int n, int places) {
            for (int d = 1; d <= n; d++) {
                for (int state = 0; state < STATES; state++) {
                    means[d][state] = meanOf(d, state, places);
                }
            }
        }

        private long meanOf(int d, int state, int places) {
            long skipped = means[d - 1][afterSkip(state)];
            long mean = (MAX_TENTHS - allTenths()) * skipped;
            boolean isFree = state / 2 + state % 2 < places;
            for (int j = 0; j < SORTS; j++) {
                mean += tenths[j] * (isFree ? Math.max(skipped, meanIfTaken(j, d, state)) : skipped);
            }
            return mean;
        }

        /** In the scale of the day behind, as what follows is. */
        private long meanIfTaken(int j, int d, int state) {
            return worth[j] * powerOfTen(d - 1) + means[d - 1][afterTake(j, state)];
        }

        private static int afterSkip(int state) {
            return state % 2 * 2;
        }

        private int afterTake(int j, int state) {
            switch (days[j]) {
                case 2: return afterSkip(state) + 2;
                case 3: return afterSkip(state) + 1;
                default: return afterSkip(state);
            }
        }

        boolean isWorthTaking(int j, int n) {
            return meanIfTaken(j, n, EMPTY) >= means[n - 1][EMPTY];
        }

        /** The mean of n days as a fraction in least terms: its lower number is a power of 2 times one of 5. */
        void reduce(int n) {
            upper = means[n][EMPTY];
            lower = powerOfTen(n);
            for (int i = 0; i < n; i++) {
                cancel(2);
                cancel(5);
            }
        }

        private void cancel(int prime) {
            if (upper % prime == 0 && lower % prime == 0) {
                upper /= prime;
                lower /= prime;
            }
        }

        private static long powerOfTen(int n) {
            long power = 1;
            for (int i = 0; i < n; i++) {
                power *= 10;
            }
            return power;
        }
    }

    /** Askings that hang on one another. */
    private static final class Rings {
        /** The askings in their order, as the latest look at them found it. */
        final int[] row = new int[MAX_ASKINGS];

        /** Whether the askings that are not in the bits of off can't all be put into an order. */
        boolean isRingWithout(Town town, int off) {
            int gone = off;
            int placed = 0;
            for (int turn = 0; turn < town.askings; turn++) {
                int a = firstFree(town, gone);
                if (a == ABSENT) {
                    break;
                }
                row[placed] = a;
                placed++;
                gone |= 1 << a;
            }
            return gone != (1 << town.askings) - 1;
        }

        private static int firstFree(Town town, int gone) {
            for (int a = 0; a < town.askings; a++) {
                if ((gone >> a & 1) == 0 && (town.hangsOn[a] & ~gone) == 0) {
                    return a;
                }
            }
            return ABSENT;
        }

        int smallestSetOff(Town town) {
            int all = (1 << town.askings) - 1;
            int best = all;
            for (int set = 0; set < all; set++) {
                if (Integer.bitCount(set) < Integer.bitCount(best) && !isRingWithout(town, set)) {
                    best = set;
                }
            }
            return best;
        }
    }
}
