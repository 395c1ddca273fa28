/**
 * Rooms by three o'clock: a house told as a text, the women who do its rooms by rules, the keys that
 * its guests are given, and what is waited for them. ../shared/DOC.md promises what each call answers.
 */
public final class RoomsByThree {
    public static final int NONE = -1, UNKNOWN = -101, OUTSIDE = -102, STATE = -103, FULL = -104;

    private static final int MORE_UNKNOWN = -10000001, MORE_OUTSIDE = -10000002, MORE_STATE = -10000003;

    private static final int LIST = 0, FLOORS = 1, FREE = 2, PAID = 3, PROMISE = 4, BEST = 5, TOLD = 6;
    private static final int AS_THEY_COME = 0, WISE = 1;

    /** The columns of what is told of a room, a woman, a guest: as room(), woman(), guest() number them. */
    private static final int FLOOR = 0, SORT = 1, WORK = 2, FIRST = 3, LATER = 4, TENTHS = 5, LATE = 6;
    private static final int FROM = 1, TO = 2;
    private static final int COMES = 0, WISH = 1, HIGH = 2, WEIGHT = 3;
    private static final int ROOM_FACTS = 7, WOMAN_FACTS = 3, GUEST_FACTS = 4, COUNTS = 8;

    private static final int MOST_ROOMS = 8, MOST_WOMEN = 3, MOST_GUESTS = 8, MOST_CHANCES = 3, MOST_RULES = 8;
    private static final int MOST_WAYS = 8, MOST_LETTERS = 160, MOST_ASKED = 16;
    private static final int LAST_QUARTER = 44, MOST_FLOORS = 6, HIGH_FLOOR = 4, NO_GUEST = 99;

    /** A BEST looks at all orders of so many rooms at most: so many orders. */
    private static final int MOST_ORDERED = 6, MOST_ORDERS = 720;
    private static final int[] AS_NUMBERED = {0, 1, 2, 3, 4, 5, 6, 7};

    private final Page page = new Page();
    private final House house = new House();
    /** Where the page is tried, so that a refusal changes nothing. */
    private final House spare = new House();
    private final Rule[] rules = new Rule[MOST_RULES];
    private int ruleCount;
    private final Crew crew = new Crew(house);
    private final Desk desk = new Desk(house);
    private final Orders orders = new Orders(house, crew, desk);
    private final int[] waitBy = new int[MOST_WAYS];
    private final int[] imageLate = new int[MOST_ROOMS];
    private int imageLift;
    private boolean imageKept;
    private int asked;

    public RoomsByThree() {
    }

    // ---- texts

    public int letters(long w) {
        int fresh = Page.lettersIn(w);
        if (fresh == NONE) {
            return OUTSIDE;
        }
        if (page.length + fresh > MOST_LETTERS) {
            return FULL;
        }
        page.append(w, fresh);
        return page.length;
    }

    public int blank() {
        int had = page.length;
        page.length = 0;
        return had;
    }

    public int fault(int sort) {
        if (sort != 0 && sort != 1) {
            return OUTSIDE;
        }
        if (sort == 0) {
            page.readHouse(spare);
        } else {
            page.readTold();
        }
        return page.place;
    }

    public int house() {
        if (!page.readHouse(spare)) {
            return STATE;
        }
        page.readHouse(house);
        page.length = 0;
        imageKept = false;
        hireAll();
        return house.roomCount;
    }

    public int tell() {
        if (page.length == 0 || !page.readTold()) {
            return STATE;
        }
        if (ruleCount >= MOST_RULES) {
            return FULL;
        }
        int number = addRule(new Rule(TOLD, 0, page.toldRooms(), page.toldWomen()));
        page.length = 0;
        return number;
    }

    public int rule(int kind, int n) {
        if (kind < LIST || kind > BEST || n < 0 || n > (kind == BEST ? WISE : 0)) {
            return OUTSIDE;
        }
        if (ruleCount >= MOST_RULES) {
            return FULL;
        }
        return addRule(new Rule(kind, n, new int[0], new int[0]));
    }

    public int as(int rule, int kind) {
        if (!isRule(rule)) {
            return UNKNOWN;
        }
        if (kind < LIST || kind > TOLD) {
            return OUTSIDE;
        }
        return rules[rule].isA(kind) ? rule : NONE;
    }

    // ---- what is told

    public int room(int room, int what) {
        if (!isRoom(room)) {
            return UNKNOWN;
        }
        return isBelow(what, ROOM_FACTS) ? house.rooms[room][what] : OUTSIDE;
    }

    public int woman(int woman, int what) {
        if (!isBelow(woman, house.womanCount)) {
            return UNKNOWN;
        }
        return isBelow(what, WOMAN_FACTS) ? house.women[woman][what] : OUTSIDE;
    }

    public int guest(int guest, int what) {
        if (!isGuest(guest)) {
            return UNKNOWN;
        }
        return isBelow(what, GUEST_FACTS) ? house.guests[guest][what] : OUTSIDE;
    }

    public int late(int room, int quarter) {
        if (!isRoom(room)) {
            return UNKNOWN;
        }
        if (quarter < NONE || quarter > LAST_QUARTER) {
            return OUTSIDE;
        }
        int was = house.rooms[room][LATE];
        house.rooms[room][LATE] = quarter;
        orders.forget();
        return was;
    }

    public int lift(int floors) {
        if (floors < 1 || floors > MOST_FLOORS) {
            return OUTSIDE;
        }
        int was = crew.lift;
        crew.lift = floors;
        orders.forget();
        return was;
    }

    // ---- a day

    public int gone(int room, int way) {
        if (!isRoom(room)) {
            return UNKNOWN;
        }
        return isWay(way) ? house.goneBy(room, way) : OUTSIDE;
    }

    public int done(int rule, int way, int room, int what) {
        if (!isRule(rule)) {
            return UNKNOWN;
        }
        if (!isHoused()) {
            return STATE;
        }
        if (!isRoom(room)) {
            return UNKNOWN;
        }
        if (!isWay(way) || !isBelow(what, 3)) {
            return OUTSIDE;
        }
        Rule by = rules[rule];
        crew.plan(by, orders.orderFor(by.kind, by.n), way);
        return what == 0 ? crew.by[room] : what == 1 ? crew.begun[room] : crew.ready[room];
    }

    public int given(int rule, int way, int giving, int guest, int what) {
        if (!isRule(rule)) {
            return UNKNOWN;
        }
        if (!isHoused()) {
            return STATE;
        }
        if (!isGuest(guest)) {
            return UNKNOWN;
        }
        if (!isWay(way) || !isGiving(giving) || !isBelow(what, 3)) {
            return OUTSIDE;
        }
        Rule by = rules[rule];
        dayCost(by, orders.orderFor(by.kind, by.n), way, giving);
        if (what == 0) {
            return desk.roomOf[guest];
        }
        int waits = desk.waitOf(crew.ready, guest);
        return what == 1 ? waits : waits * house.guests[guest][WEIGHT];
    }

    public int cost(int rule, int way, int giving) {
        int refusal = refusalOf(rule, giving);
        if (refusal != 0) {
            return refusal;
        }
        if (!isWay(way)) {
            return OUTSIDE;
        }
        Rule by = rules[rule];
        return dayCost(by, orders.orderFor(by.kind, by.n), way, giving);
    }

    public int mean(int rule, int giving, int part) {
        int refusal = refusalOf(rule, giving);
        if (refusal != 0) {
            return refusal;
        }
        return isPart(part) ? termOf(costOverWays(rules[rule], giving), part) : OUTSIDE;
    }

    public int worst(int rule, int giving, int what) {
        int refusal = refusalOf(rule, giving);
        if (refusal != 0) {
            return refusal;
        }
        if (!isBelow(what, 2)) {
            return OUTSIDE;
        }
        Rule by = rules[rule];
        int[] order = orders.orderFor(by.kind, by.n);
        int worstWay = 0;
        int most = NONE;
        for (int way = 0; way < house.wayCount(); way++) {
            int costs = dayCost(by, order, way, giving);
            if (costs > most) {
                most = costs;
                worstWay = way;
            }
        }
        return what == 0 ? worstWay : most;
    }

    public int sure(int rule, int giving, int guest, int quarters, int part) {
        int refusal = refusalOf(rule, giving, guest);
        if (refusal != 0) {
            return refusal;
        }
        if (quarters < 0 || quarters > LAST_QUARTER || !isPart(part)) {
            return OUTSIDE;
        }
        waitByWays(rules[rule], giving, guest);
        return termOf(chanceWithin(quarters), part);
    }

    public int tells(int rule, int giving, int guest, int tenths) {
        int refusal = refusalOf(rule, giving, guest);
        if (refusal != 0) {
            return refusal;
        }
        if (tenths < 1 || tenths > 10) {
            return OUTSIDE;
        }
        waitByWays(rules[rule], giving, guest);
        int quarters = 0;
        while (quarters < LAST_QUARTER && chanceWithin(quarters) * 10 < tenths * house.whole()) {
            quarters++;
        }
        return quarters;
    }

    public int run(int rule, int giving, int seed, int what) {
        int refusal = refusalOf(rule, giving);
        if (refusal != 0) {
            return refusal;
        }
        if (seed < 0 || !isBelow(what, 3)) {
            return OUTSIDE;
        }
        long next = seed;
        int way = 0;
        for (int bit = 0; bit < house.chanceCount; bit++) {
            int r = house.chanceRoom[bit];
            if (house.rooms[r][LATE] == NONE) {
                next = (1103515245L * next + 12345L) % 2147483648L;
                if (next / 65536L % 10L >= house.rooms[r][TENTHS]) {
                    way |= 1 << bit;
                }
            }
        }
        if (what != 1) {
            return what == 0 ? way : (int) next;
        }
        Rule by = rules[rule];
        return dayCost(by, orders.orderFor(by.kind, by.n), way, giving);
    }

    // ---- what else could be

    public int best(int giving, int i) {
        if (!isHoused()) {
            return STATE;
        }
        if (!isGiving(giving) || !isBelow(i, MOST_ORDERED)) {
            return OUTSIDE;
        }
        if (house.roomCount > MOST_ORDERED || asked >= MOST_ASKED) {
            return STATE;
        }
        asked++;
        return i < house.roomCount ? orders.orderFor(BEST, giving)[i] : NONE;
    }

    public int call(int giving, int room, int part) {
        if (!isRoom(room) || !house.isByChance(room)) {
            return UNKNOWN;
        }
        if (!isGiving(giving) || !isPart(part)) {
            return OUTSIDE;
        }
        if (house.roomCount > MOST_ORDERED || asked >= MOST_ASKED) {
            return STATE;
        }
        asked++;
        orders.weighAll(giving);
        return termOf(orders.worthOf(house.bitOf(room)), part);
    }

    public int called(int giving) {
        if (!isHoused()) {
            return STATE;
        }
        if (!isGiving(giving)) {
            return OUTSIDE;
        }
        if (house.roomCount > MOST_ORDERED || asked >= MOST_ASKED) {
            return STATE;
        }
        asked++;
        int room = NONE;
        int most = NONE;
        for (int bit = 0; bit < house.chanceCount; bit++) {
            if (house.isByChance(house.chanceRoom[bit])) {
                if (room == NONE) {
                    orders.weighAll(giving);
                }
                int worth = orders.worthOf(bit);
                if (worth > most) {
                    most = worth;
                    room = house.chanceRoom[bit];
                }
            }
        }
        return room;
    }

    public int missed(int rule, int giving) {
        int refusal = refusalOf(rule, giving);
        if (refusal != 0) {
            return refusal;
        }
        if (asked >= MOST_ASKED) {
            return STATE;
        }
        asked++;
        int missing = 0;
        int most = NONE;
        for (int w = 0; w < house.womanCount; w++) {
            hireAll();
            crew.sendAway(w);
            int without = costOverWays(rules[rule], giving);
            if (without > most) {
                most = without;
                missing = w;
            }
        }
        hireAll();
        return missing;
    }

    public int more(int rule, int giving, int part) {
        if (!isRule(rule)) {
            return MORE_UNKNOWN;
        }
        if (!isHoused()) {
            return MORE_STATE;
        }
        if (!isGiving(giving) || !isPart(part)) {
            return MORE_OUTSIDE;
        }
        if (asked >= MOST_ASKED) {
            return MORE_STATE;
        }
        asked++;
        int alone = costOverWays(rules[rule], giving);
        hireAll();
        crew.hireLike(house.women[0]);
        int together = costOverWays(rules[rule], giving);
        hireAll();
        return termOf(alone - together, part);
    }

    public int which(int giving) {
        if (!isHoused()) {
            return STATE;
        }
        if (!isGiving(giving)) {
            return OUTSIDE;
        }
        if (asked >= MOST_ASKED) {
            return STATE;
        }
        asked++;
        int least = 0;
        int number = NONE;
        for (int i = 0; i < ruleCount; i++) {
            int sum = costOverWays(rules[i], giving);
            if (number == NONE || sum < least) {
                least = sum;
                number = i;
            }
        }
        return number;
    }

    // ---- what is told of all

    public int image() {
        if (!isHoused()) {
            return STATE;
        }
        for (int r = 0; r < house.roomCount; r++) {
            imageLate[r] = house.rooms[r][LATE];
        }
        imageLift = crew.lift;
        imageKept = true;
        return house.lateCount();
    }

    public int restore() {
        if (!imageKept) {
            return STATE;
        }
        for (int r = 0; r < house.roomCount; r++) {
            house.rooms[r][LATE] = imageLate[r];
        }
        crew.lift = imageLift;
        orders.forget();
        return house.lateCount();
    }

    public int count(int what) {
        switch (what) {
            case 0:
                return house.roomCount;
            case 1:
                return house.womanCount;
            case 2:
                return house.guestCount;
            case 3:
                return ruleCount;
            case 4:
                return page.length;
            case 5:
                return house.chanceCount;
            case 6:
                return house.lateCount();
            case 7:
                return asked;
            default:
                return OUTSIDE;
        }
    }

    public long digest() {
        long h = 419L;
        for (int r = 0; r < house.roomCount; r++) {
            h = addAll(h, house.rooms[r]);
        }
        for (int w = 0; w < house.womanCount; w++) {
            h = addAll(h, house.women[w]);
        }
        for (int g = 0; g < house.guestCount; g++) {
            h = addAll(h, house.guests[g]);
        }
        h = 31L * h + crew.lift;
        for (int i = 0; i < ruleCount; i++) {
            h = 31L * h + rules[i].kind;
            h = 31L * h + rules[i].n;
            if (rules[i].kind != BEST && isHoused()) {
                h = 31L * h + dayCost(rules[i], AS_NUMBERED, 0, AS_THEY_COME);
                h = 31L * h + dayCost(rules[i], AS_NUMBERED, 0, WISE);
            }
        }
        for (int i = 0; i < page.length; i++) {
            h = 31L * h + page.letters[i];
        }
        for (int what = 0; what < COUNTS; what++) {
            h = 31L * h + count(what);
        }
        return h;
    }

    // ---- what a call asks ahead

    private static boolean isBelow(int number, int bound) {
        return number >= 0 && number < bound;
    }

    private static boolean isGiving(int giving) {
        return giving == AS_THEY_COME || giving == WISE;
    }

    private static boolean isPart(int part) {
        return part == 0 || part == 1;
    }

    private boolean isHoused() {
        return house.roomCount > 0;
    }

    private boolean isRule(int rule) {
        return isBelow(rule, ruleCount);
    }

    private boolean isRoom(int room) {
        return isBelow(room, house.roomCount);
    }

    private boolean isGuest(int guest) {
        return isBelow(guest, house.guestCount);
    }

    private boolean isWay(int way) {
        return isBelow(way, house.wayCount());
    }

    /** The refusal of a call that names a rule and a giving; 0, if there is none. */
    private int refusalOf(int rule, int giving) {
        if (!isRule(rule)) {
            return UNKNOWN;
        }
        if (!isHoused()) {
            return STATE;
        }
        return isGiving(giving) ? 0 : OUTSIDE;
    }

    /** Likewise of one that names a guest, too. */
    private int refusalOf(int rule, int giving, int guest) {
        if (isRule(rule) && isHoused() && !isGuest(guest)) {
            return UNKNOWN;
        }
        return refusalOf(rule, giving);
    }

    // ---- how it is reckoned

    private int addRule(Rule rule) {
        rules[ruleCount] = rule;
        ruleCount++;
        return ruleCount - 1;
    }

    /** The women are those of the house again; what was best by others is so no longer. */
    private void hireAll() {
        crew.hireAll();
        orders.forget();
    }

    private int dayCost(Rule rule, int[] order, int way, int giving) {
        crew.plan(rule, order, way);
        return desk.give(crew.ready, giving);
    }

    /** The mean of what all cost together, times the whole of all chances. */
    private int costOverWays(Rule rule, int giving) {
        int[] order = orders.orderFor(rule.kind, rule.n);
        int sum = 0;
        for (int way = 0; way < house.wayCount(); way++) {
            int chance = house.chanceOf(way);
            if (chance > 0) {
                sum += chance * dayCost(rule, order, way, giving);
            }
        }
        return sum;
    }

    private void waitByWays(Rule rule, int giving, int guest) {
        int[] order = orders.orderFor(rule.kind, rule.n);
        for (int way = 0; way < house.wayCount(); way++) {
            dayCost(rule, order, way, giving);
            waitBy[way] = desk.waitOf(crew.ready, guest);
        }
    }

    /** The chance of the ways by which waitByWays() saw so many quarters at most. */
    private int chanceWithin(int quarters) {
        int sum = 0;
        for (int way = 0; way < house.wayCount(); way++) {
            if (waitBy[way] <= quarters) {
                sum += house.chanceOf(way);
            }
        }
        return sum;
    }

    /** A part of the fraction sum / whole of all chances, in lowest terms. */
    private int termOf(int sum, int part) {
        int whole = house.whole();
        int divisor = whole;
        int rest = Math.abs(sum);
        for (int step = 0; step < 64 && rest != 0; step++) {
            int next = divisor % rest;
            divisor = rest;
            rest = next;
        }
        if (divisor == 0) {
            return NONE;
        }
        return (part == 0 ? sum : whole) / divisor;
    }

    private static long addAll(long h, int[] numbers) {
        long sum = h;
        for (int number : numbers) {
            sum = 31L * sum + number;
        }
        return sum;
    }

    /** THE PAGE, and how it is read: place is where reading stopped, at the first letter that may not be there. */
    private static final class Page {
        final char[] letters = new char[MOST_LETTERS];
        int length;
        int place;
        private boolean stopped;
        private final int[] toldRoom = new int[MOST_ROOMS];
        private final int[] toldWoman = new int[MOST_ROOMS];
        private int toldCount;

        /** How many letters the bytes of w tell; NONE, if they are not as told. */
        static int lettersIn(long w) {
            int fresh = 0;
            boolean ended = false;
            for (int i = 0; i < 8; i++) {
                int code = (int) (w >>> (8 * i)) & 255;
                if (code == 0) {
                    ended = true;
                } else if (ended || code > 126) {
                    return NONE;
                } else {
                    fresh++;
                }
            }
            return fresh;
        }

        void append(long w, int fresh) {
            for (int i = 0; i < fresh && length < MOST_LETTERS; i++) {
                letters[length] = (char) ((w >>> (8 * i)) & 255L);
                length++;
            }
        }

        boolean readHouse(House into) {
            place = 0;
            stopped = false;
            into.clear();
            readRooms(into);
            readWomen(into);
            readGuests(into);
            if (stopped) {
                return false;
            }
            into.settle();
            return true;
        }

        private void readRooms(House into) {
            for (int r = 0; r < MOST_ROOMS && !stopped; r++) {
                readRoom(into, r);
                into.roomCount = r + 1;
                if (takes(';')) {
                    return;
                }
                needsAnother(r + 1 < MOST_ROOMS);
            }
        }

        private void readRoom(House into, int r) {
            int[] facts = into.rooms[r];
            facts[FLOOR] = digit(1, MOST_FLOORS);
            facts[SORT] = sort();
            facts[WORK] = digit(1, 9);
            needs('g');
            facts[FIRST] = number(0, 40);
            facts[LATER] = NONE;
            facts[TENTHS] = NONE;
            facts[LATE] = NONE;
            if (into.chanceCount < MOST_CHANCES && takes('/')) {
                into.chanceRoom[into.chanceCount] = r;
                into.chanceCount++;
                facts[TENTHS] = digit(1, 9);
                needs('g');
                facts[LATER] = number(facts[FIRST] + 1, 41);
            }
        }

        private void readWomen(House into) {
            for (int w = 0; w < MOST_WOMEN && !stopped; w++) {
                int[] facts = into.women[w];
                facts[FLOOR] = digit(1, MOST_FLOORS);
                needs('f');
                facts[FROM] = number(0, 40);
                needs('t');
                facts[TO] = number(facts[FROM] + 1, LAST_QUARTER);
                into.womanCount = w + 1;
                if (takes(';')) {
                    return;
                }
                needsAnother(w + 1 < MOST_WOMEN);
            }
        }

        private void readGuests(House into) {
            for (int g = 0; g < MOST_GUESTS && !stopped; g++) {
                int[] facts = into.guests[g];
                facts[COMES] = number(0, LAST_QUARTER);
                facts[WISH] = takes('x') ? NONE : sort();
                facts[HIGH] = takes('h') ? 1 : 0;
                facts[WEIGHT] = digit(1, 9);
                into.guestCount = g + 1;
                if (place >= length) {
                    return;
                }
                needsAnother(g + 1 < MOST_GUESTS);
            }
        }

        /** Reads a TOLD rule; an empty page is read as one of no rooms. */
        boolean readTold() {
            int used = 0;
            int woman = 0;
            toldCount = 0;
            for (place = 0; place < length; place++) {
                int room = letters[place] - '0';
                if (letters[place] == ';' && woman + 1 < MOST_WOMEN) {
                    woman++;
                } else if (isBelow(room, MOST_ROOMS) && (used >> room & 1) == 0 && toldCount < MOST_ROOMS) {
                    used |= 1 << room;
                    toldRoom[toldCount] = room;
                    toldWoman[toldCount] = woman;
                    toldCount++;
                } else {
                    return false;
                }
            }
            return true;
        }

        int[] toldRooms() {
            return cutToTold(toldRoom);
        }

        int[] toldWomen() {
            return cutToTold(toldWoman);
        }

        private int[] cutToTold(int[] row) {
            int[] cut = new int[Math.max(0, toldCount)];
            for (int i = 0; i < cut.length && i < row.length; i++) {
                cut[i] = row[i];
            }
            return cut;
        }

        private boolean takes(char letter) {
            if (stopped || place >= length || letters[place] != letter) {
                return false;
            }
            place++;
            return true;
        }

        private void needs(char letter) {
            if (!takes(letter)) {
                stopped = true;
            }
        }

        private void needsAnother(boolean mayCome) {
            if (mayCome) {
                needs(',');
            } else {
                stopped = true;
            }
        }

        /** The digit at the place; NONE, if none stands there, or nothing is read any more. */
        private int digitHere() {
            if (stopped || place >= length) {
                return NONE;
            }
            int value = letters[place] - '0';
            return isBelow(value, 10) ? value : NONE;
        }

        private int digit(int least, int most) {
            int value = digitHere();
            if (value < least || value > most) {
                stopped = true;
                return 0;
            }
            place++;
            return value;
        }

        private int sort() {
            int value = stopped || place >= length ? NONE : letters[place] - 'a';
            if (!isBelow(value, 4)) {
                stopped = true;
                return 0;
            }
            place++;
            return value;
        }

        /** A number of two digits at most; a first digit that no number from least to most has stops at once. */
        private int number(int least, int most) {
            int value = digitHere();
            boolean whole = value >= least && value <= most;
            boolean begun = value > 0 && value * 10 + 9 >= least && value * 10 <= most;
            if (value == NONE || !whole && !begun) {
                stopped = true;
                return 0;
            }
            place++;
            int second = digitHere();
            if (second == NONE) {
                stopped = !whole;
                return value;
            }
            int both = value * 10 + second;
            if (value == 0 || both < least || both > most) {
                stopped = true;
                return 0;
            }
            place++;
            return both;
        }
    }

    /** What a text told of rooms, women and guests, what is LATE, and what follows of it; no rooms: no house. */
    private static final class House {
        final int[][] rooms = new int[MOST_ROOMS][ROOM_FACTS];
        final int[][] women = new int[MOST_WOMEN][WOMAN_FACTS];
        final int[][] guests = new int[MOST_GUESTS][GUEST_FACTS];
        int roomCount;
        int womanCount;
        int guestCount;
        int chanceCount;
        final int[] chanceRoom = new int[MOST_CHANCES];
        /** Of each guest the rooms that fit it, by bits. */
        final int[] fitting = new int[MOST_GUESTS];
        /** The guests in the order in which they come. */
        final int[] arrivals = new int[MOST_GUESTS];
        /** Of each room when the first guest comes whom it fits. */
        final int[] promised = new int[MOST_ROOMS];
        /** What all would cost together without a room. */
        int bareCost;

        void clear() {
            roomCount = 0;
            womanCount = 0;
            guestCount = 0;
            chanceCount = 0;
        }

        void settle() {
            bareCost = 0;
            for (int r = 0; r < roomCount; r++) {
                promised[r] = NO_GUEST;
            }
            for (int g = 0; g < guestCount; g++) {
                bareCost += (LAST_QUARTER - guests[g][COMES]) * guests[g][WEIGHT];
                fitting[g] = 0;
                for (int r = 0; r < roomCount; r++) {
                    if (fits(r, g)) {
                        fitting[g] |= 1 << r;
                        promised[r] = Math.min(promised[r], guests[g][COMES]);
                    }
                }
                queue(g);
            }
        }

        private boolean fits(int r, int g) {
            boolean sortFits = guests[g][WISH] == NONE || guests[g][WISH] == rooms[r][SORT];
            return sortFits && (guests[g][HIGH] == 0 || rooms[r][FLOOR] >= HIGH_FLOOR);
        }

        /** Puts a guest behind those of lower numbers who come no later. */
        private void queue(int g) {
            int at = g;
            while (at > 0 && guests[arrivals[at - 1]][COMES] > guests[g][COMES]) {
                arrivals[at] = arrivals[at - 1];
                at--;
            }
            arrivals[at] = g;
        }

        int wayCount() {
            return 1 << chanceCount;
        }

        /** The whole of all chances: each room told BY CHANCE has ten tenths. */
        int whole() {
            int product = 1;
            for (int bit = 0; bit < chanceCount; bit++) {
                product *= 10;
            }
            return product;
        }

        /** The chance of a way, of whole(); the bit of a LATE room tells nothing: 0 stands for both. */
        int chanceOf(int way) {
            int product = 1;
            for (int bit = 0; bit < chanceCount; bit++) {
                int[] facts = rooms[chanceRoom[bit]];
                int first = facts[LATE] == NONE ? facts[TENTHS] : 10;
                product *= (way >> bit & 1) == 0 ? first : 10 - first;
            }
            return product;
        }

        int bitOf(int r) {
            for (int bit = 0; bit < chanceCount; bit++) {
                if (chanceRoom[bit] == r) {
                    return bit;
                }
            }
            return NONE;
        }

        boolean isByChance(int r) {
            return rooms[r][LATE] == NONE && rooms[r][TENTHS] != NONE;
        }

        int goneBy(int r, int way) {
            int[] facts = rooms[r];
            if (facts[LATE] != NONE) {
                return facts[LATE];
            }
            int bit = bitOf(r);
            return bit != NONE && (way >> bit & 1) == 1 ? facts[LATER] : facts[FIRST];
        }

        int lateCount() {
            int sum = 0;
            for (int r = 0; r < roomCount; r++) {
                if (rooms[r][LATE] != NONE) {
                    sum++;
                }
            }
            return sum;
        }
    }

    /** A RULE: its KIND, the GIVING of a BEST, and of a TOLD the rooms with the woman who does each. */
    private static final class Rule {
        final int kind;
        final int n;
        final int[] toldRoom;
        final int[] toldWoman;

        Rule(int kind, int n, int[] toldRoom, int[] toldWoman) {
            this.kind = kind;
            this.n = n;
            this.toldRoom = toldRoom;
            this.toldWoman = toldWoman;
        }

        boolean isA(int other) {
            boolean isFree = kind == FREE || kind == PAID || kind == PROMISE;
            return other == LIST || other == kind || other == FREE && isFree;
        }
    }

    /** The women and THE LIFT, and one day's work: by whom each room is done, when it is begun and ready. */
    private static final class Crew {
        int lift = 2;
        /** One woman more than a house has may be hired. */
        final int[][] women = new int[MOST_WOMEN + 1][WOMAN_FACTS];
        final boolean[] here = new boolean[MOST_WOMEN + 1];
        int size;
        final int[] freeAt = new int[MOST_WOMEN + 1];
        final int[] floorAt = new int[MOST_WOMEN + 1];
        private final boolean[] ended = new boolean[MOST_WOMEN + 1];
        private final House house;
        private final int[] gone = new int[MOST_ROOMS];
        final int[] by = new int[MOST_ROOMS];
        final int[] begun = new int[MOST_ROOMS];
        final int[] ready = new int[MOST_ROOMS];

        Crew(House house) {
            this.house = house;
        }

        void hireAll() {
            size = 0;
            for (int w = 0; w < house.womanCount; w++) {
                hireLike(house.women[w]);
            }
        }

        void hireLike(int[] facts) {
            if (size < women.length) {
                women[size][FLOOR] = facts[FLOOR];
                women[size][FROM] = facts[FROM];
                women[size][TO] = facts[TO];
                here[size] = true;
                size++;
            }
        }

        /** The others keep their numbers. */
        void sendAway(int w) {
            if (isBelow(w, size)) {
                here[w] = false;
            }
        }

        /** A day by a way begins: no room is done yet. */
        void open(int way) {
            for (int r = 0; r < house.roomCount; r++) {
                gone[r] = house.goneBy(r, way);
                by[r] = NONE;
                begun[r] = NONE;
                ready[r] = NONE;
            }
            for (int w = 0; w < size; w++) {
                freeAt[w] = women[w][FROM];
                floorAt[w] = women[w][FLOOR];
                ended[w] = !here[w];
            }
        }

        /** Does a day by a way: an order of rooms is asked for by a LIST and a BEST alone. */
        void plan(Rule rule, int[] order, int way) {
            open(way);
            switch (rule.kind) {
                case FLOORS:
                    planFloors();
                    break;
                case FREE:
                case PAID:
                case PROMISE:
                    planFree(rule.kind);
                    break;
                case TOLD:
                    planTold(rule);
                    break;
                default:
                    planList(order);
            }
        }

        private void planList(int[] order) {
            for (int i = 0; i < house.roomCount && i < order.length; i++) {
                int w = soonestFor(order[i]);
                if (w != NONE) {
                    assign(w, order[i]);
                }
            }
        }

        /** The woman by whom a room would be ready first of those who may; NONE, if none may. */
        int soonestFor(int r) {
            int soonest = NONE;
            int least = 0;
            for (int w = 0; w < size; w++) {
                int time = readyBy(w, r);
                if (time != NONE && (soonest == NONE || time < least)) {
                    soonest = w;
                    least = time;
                }
            }
            return soonest;
        }

        /** When a room would be ready by a woman as she is now; NONE, if she may not do it. */
        private int readyBy(int w, int r) {
            if (!here[w] || lift < 1) {
                return NONE;
            }
            int[] facts = house.rooms[r];
            int rides = (Math.abs(floorAt[w] - facts[FLOOR]) + lift - 1) / lift;
            int time = Math.max(freeAt[w] + rides, gone[r]) + facts[WORK];
            return time <= women[w][TO] ? time : NONE;
        }

        /** A woman does a room if she may. */
        void assign(int w, int r) {
            int time = readyBy(w, r);
            if (time != NONE) {
                by[r] = w;
                ready[r] = time;
                begun[r] = time - house.rooms[r][WORK];
                freeAt[w] = time;
                floorAt[w] = house.rooms[r][FLOOR];
            }
        }

        /** Undoes the last room of a woman, who was free at a quarter on a floor ahead of it. */
        void takeBack(int w, int r, int quarter, int floor) {
            by[r] = NONE;
            ready[r] = NONE;
            begun[r] = NONE;
            freeAt[w] = quarter;
            floorAt[w] = floor;
        }

        private void planFloors() {
            int seen = 0;
            for (int i = 0; i < house.roomCount; i++) {
                int first = NONE;
                for (int r = 0; r < house.roomCount; r++) {
                    if ((seen >> r & 1) == 0 && (first == NONE || gone[r] < gone[first])) {
                        first = r;
                    }
                }
                if (first == NONE) {
                    return;
                }
                seen |= 1 << first;
                int w = nearestAtFirst(house.rooms[first][FLOOR]);
                if (w != NONE) {
                    assign(w, first);
                }
            }
        }

        private int nearestAtFirst(int floor) {
            int nearest = NONE;
            int least = 0;
            for (int w = 0; w < size; w++) {
                int away = Math.abs(women[w][FLOOR] - floor);
                if (here[w] && (nearest == NONE || away < least)) {
                    nearest = w;
                    least = away;
                }
            }
            return nearest;
        }

        /** Each step begins a room, or moves a woman to a later quarter of a room, or ends her: under 100 in all. */
        private void planFree(int kind) {
            for (int step = 0; step < 100; step++) {
                int w = freeFirst();
                if (w == NONE) {
                    return;
                }
                int r = chosenBy(w, kind);
                if (r != NONE) {
                    assign(w, r);
                } else {
                    int next = nextGone(freeAt[w]);
                    ended[w] = next == NONE;
                    freeAt[w] = Math.max(freeAt[w], next);
                }
            }
        }

        private int freeFirst() {
            int first = NONE;
            for (int w = 0; w < size; w++) {
                if (!ended[w] && (first == NONE || freeAt[w] < freeAt[first])) {
                    first = w;
                }
            }
            return first;
        }

        private int chosenBy(int w, int kind) {
            int chosen = NONE;
            int least = 0;
            for (int r = 0; r < house.roomCount; r++) {
                if (by[r] == NONE && gone[r] <= freeAt[w] && readyBy(w, r) != NONE) {
                    int[] facts = house.rooms[r];
                    int ahead = kind == PAID ? facts[WORK] : kind == PROMISE ? house.promised[r] : 0;
                    int rank = ahead * MOST_FLOORS + Math.abs(floorAt[w] - facts[FLOOR]);
                    if (chosen == NONE || rank < least) {
                        chosen = r;
                        least = rank;
                    }
                }
            }
            return chosen;
        }

        private int nextGone(int quarter) {
            int next = NONE;
            for (int r = 0; r < house.roomCount; r++) {
                if (by[r] == NONE && gone[r] > quarter && (next == NONE || gone[r] < next)) {
                    next = gone[r];
                }
            }
            return next;
        }

        private void planTold(Rule rule) {
            for (int i = 0; i < rule.toldRoom.length && i < rule.toldWoman.length; i++) {
                int w = rule.toldWoman[i];
                int r = rule.toldRoom[i];
                if (isBelow(w, size) && isBelow(r, house.roomCount)) {
                    assign(w, r);
                }
            }
        }
    }

    /** Gives the keys: of each guest the room that it is given, or NONE. */
    private static final class Desk {
        private final House house;
        final Keys keys;
        final int[] roomOf = new int[MOST_GUESTS];

        Desk(House house) {
            this.house = house;
            this.keys = new Keys(house);
        }

        /** Gives rooms that are ready at these quarters (NONE: never): what all cost together. */
        int give(int[] ready, int giving) {
            return giving == WISE ? giveWisely(ready) : giveAsTheyCome(ready);
        }

        int waitOf(int[] ready, int g) {
            int r = roomOf[g];
            int until = isBelow(r, house.roomCount) ? ready[r] : LAST_QUARTER;
            return Math.max(0, until - house.guests[g][COMES]);
        }

        int giveAsTheyCome(int[] ready) {
            int sum = 0;
            int given = 0;
            for (int i = 0; i < house.guestCount; i++) {
                int g = house.arrivals[i];
                int may = house.fitting[g] & ~given;
                int comes = house.guests[g][COMES];
                int wait = LAST_QUARTER - comes;
                roomOf[g] = NONE;
                for (int r = 0; r < house.roomCount; r++) {
                    if ((may >> r & 1) == 1 && ready[r] != NONE) {
                        int waits = Math.max(0, ready[r] - comes);
                        if (roomOf[g] == NONE || waits < wait) {
                            roomOf[g] = r;
                            wait = waits;
                        }
                    }
                }
                if (roomOf[g] != NONE) {
                    given |= 1 << roomOf[g];
                }
                sum += wait * house.guests[g][WEIGHT];
            }
            return sum;
        }

        private int giveWisely(int[] ready) {
            keys.begin();
            for (int r = 0; r < house.roomCount; r++) {
                if (ready[r] == NONE) {
                    keys.keep(r);
                } else {
                    keys.add(r, r, ready[r]);
                }
            }
            for (int g = 0; g < house.guestCount; g++) {
                roomOf[g] = keys.roomFor(house.roomCount, g);
            }
            return house.bareCost - keys.savedAt(house.roomCount);
        }
    }

    /**
     * The WISE giving, room by room: each room that is added takes the place of a guest, and moves others
     * along the cheapest chain of places, so that the gain of all together stays the greatest (the Hungarian
     * way). Level k holds how it stands with k rooms seen, so that a walk over orders can go back to it.
     * A gain is what is saved of the cost, times RANK_WHOLE, and a rank: guest 0's digit by 9 first, 8 for
     * room 0 down to 0 for none; so of givings of like cost the one that is wished has the greatest gain.
     */
    private static final class Keys {
        private static final long RANK_WHOLE = 43046721L;
        private static final long[] RANK_OF_GUEST = {4782969L, 531441L, 59049L, 6561L, 729L, 81L, 9L, 1L};
        private static final long FAR = 1000000000000000L;

        private final House house;
        /** As many as guests, or rooms, if they are more: a place without a guest gains nothing. */
        private int places;
        private final long[][] gain = new long[MOST_ROOMS][MOST_ROOMS];
        private final long[][] roomPrice = new long[MOST_ROOMS + 1][MOST_ROOMS];
        private final long[][] placePrice = new long[MOST_ROOMS + 1][MOST_ROOMS];
        private final int[][] roomAt = new int[MOST_ROOMS + 1][MOST_ROOMS];
        private final long[] reach = new long[MOST_ROOMS];
        private final int[] before = new int[MOST_ROOMS];
        private final boolean[] seen = new boolean[MOST_ROOMS];

        Keys(House house) {
            this.house = house;
        }

        void begin() {
            places = Math.min(MOST_ROOMS, Math.max(house.guestCount, house.roomCount));
            for (int i = 0; i < places; i++) {
                roomPrice[0][i] = 0L;
                placePrice[0][i] = 0L;
                roomAt[0][i] = NONE;
            }
        }

        /** The next level is as this one. */
        void keep(int level) {
            if (isBelow(level, MOST_ROOMS)) {
                System.arraycopy(roomPrice[level], 0, roomPrice[level + 1], 0, places);
                System.arraycopy(placePrice[level], 0, placePrice[level + 1], 0, places);
                System.arraycopy(roomAt[level], 0, roomAt[level + 1], 0, places);
            }
        }

        /** The next level is as this one with one room more. */
        void add(int level, int r, int ready) {
            if (!isBelow(level, MOST_ROOMS) || !isBelow(r, MOST_ROOMS)) {
                return;
            }
            keep(level);
            weigh(r, ready);
            int end = cheapestEnd(level + 1, r);
            if (end != NONE) {
                reprice(level + 1, r, end);
                moveAlong(level + 1, r, end);
            }
        }

        private void weigh(int r, int ready) {
            for (int g = 0; g < places; g++) {
                gain[r][g] = 0L;
                if (g < house.guestCount && (house.fitting[g] >> r & 1) == 1) {
                    int[] facts = house.guests[g];
                    int saved = (LAST_QUARTER - Math.max(ready, facts[COMES])) * facts[WEIGHT];
                    gain[r][g] = saved * RANK_WHOLE + (MOST_ROOMS - r) * RANK_OF_GUEST[g];
                }
            }
        }

        /** The place without a room at the end of the cheapest chain that begins with this room; see before[]. */
        private int cheapestEnd(int level, int r) {
            for (int j = 0; j < places; j++) {
                reach[j] = FAR;
                before[j] = NONE;
                seen[j] = false;
            }
            int row = r;
            int last = NONE;
            long behind = 0L;
            for (int step = 0; step < places; step++) {
                int nearest = NONE;
                for (int j = 0; j < places; j++) {
                    if (!seen[j]) {
                        long far = behind - gain[row][j] - roomPrice[level][row] - placePrice[level][j];
                        if (far < reach[j]) {
                            reach[j] = far;
                            before[j] = last;
                        }
                        if (nearest == NONE || reach[j] < reach[nearest]) {
                            nearest = j;
                        }
                    }
                }
                if (nearest == NONE || roomAt[level][nearest] == NONE) {
                    return nearest;
                }
                seen[nearest] = true;
                last = nearest;
                behind = reach[nearest];
                row = roomAt[level][nearest];
            }
            return NONE;
        }

        /** Keeps it so that no place is cheaper for a room than its own. */
        private void reprice(int level, int r, int end) {
            roomPrice[level][r] += reach[end];
            for (int j = 0; j < places; j++) {
                if (seen[j]) {
                    long nearer = reach[end] - reach[j];
                    roomPrice[level][roomAt[level][j]] += nearer;
                    placePrice[level][j] -= nearer;
                }
            }
        }

        private void moveAlong(int level, int r, int end) {
            int place = end;
            for (int step = 0; step < places && before[place] != NONE; step++) {
                roomAt[level][place] = roomAt[level][before[place]];
                place = before[place];
            }
            roomAt[level][place] = r;
        }

        int roomFor(int level, int g) {
            int r = roomAt[level][g];
            return r != NONE && gain[r][g] > 0L ? r : NONE;
        }

        /** What all cost less than without rooms. */
        int savedAt(int level) {
            long sum = 0L;
            for (int j = 0; j < places; j++) {
                if (roomAt[level][j] != NONE) {
                    sum += gain[roomAt[level][j]][j];
                }
            }
            return (int) (sum / RANK_WHOLE);
        }
    }

    /** All orders of the rooms, as lists: what each costs by each way, and which is best. */
    private static final class Orders {
        private final House house;
        private final Crew crew;
        private final Desk desk;
        /** By way, then by order: the orders are numbered by the first room, then the second, and so on. */
        private final int[][] costs = new int[MOST_WAYS][MOST_ORDERS];
        private final int[] chances = new int[MOST_WAYS];
        private int orderCount;
        private int giving;
        /** By giving: the best order, while nothing changes of which it depends. */
        private final int[][] least = new int[2][MOST_ORDERED];
        private final boolean[] known = new boolean[2];

        Orders(House house, Crew crew, Desk desk) {
            this.house = house;
            this.crew = crew;
            this.desk = desk;
        }

        void forget() {
            known[AS_THEY_COME] = false;
            known[WISE] = false;
        }

        /** The order of rooms of a rule: of a BEST the best one, if the rooms are not too many. */
        int[] orderFor(int kind, int how) {
            if (kind != BEST || house.roomCount > MOST_ORDERED || !isGiving(how)) {
                return AS_NUMBERED;
            }
            if (!known[how]) {
                weighAll(how);
                spellOut(leastOf(0, 0), least[how], house.roomCount);
                known[how] = true;
            }
            return least[how];
        }

        /** Finds what each order costs by each way that has a chance. */
        void weighAll(int how) {
            giving = how;
            for (int way = 0; way < house.wayCount(); way++) {
                chances[way] = house.chanceOf(way);
                if (chances[way] > 0) {
                    orderCount = 0;
                    crew.open(way);
                    desk.keys.begin();
                    walk(0, 0, costs[way]);
                }
            }
        }

        /** Puts each room that is left behind those taken (by bits), and so on: depth is at most MOST_ORDERED. */
        private void walk(int depth, int taken, int[] found) {
            if (depth >= house.roomCount || depth >= MOST_ORDERED) {
                if (orderCount < found.length) {
                    found[orderCount] = giving == WISE
                            ? house.bareCost - desk.keys.savedAt(depth) : desk.giveAsTheyCome(crew.ready);
                    orderCount++;
                }
                return;
            }
            for (int r = 0; r < house.roomCount; r++) {
                if ((taken >> r & 1) == 1) {
                    continue;
                }
                int w = crew.soonestFor(r);
                if (w == NONE) {
                    desk.keys.keep(depth);
                    walk(depth + 1, taken | 1 << r, found);
                } else {
                    int quarter = crew.freeAt[w];
                    int floor = crew.floorAt[w];
                    crew.assign(w, r);
                    if (giving == WISE) {
                        desk.keys.add(depth, r, crew.ready[r]);
                    }
                    walk(depth + 1, taken | 1 << r, found);
                    crew.takeBack(w, r, quarter, floor);
                }
            }
        }

        /** The first order of least cost over the ways whose bits under the mask are as told. */
        private int leastOf(int mask, int bits) {
            int first = 0;
            int lowest = sumOf(mask, bits, 0);
            for (int i = 1; i < orderCount; i++) {
                int sum = sumOf(mask, bits, i);
                if (sum < lowest) {
                    lowest = sum;
                    first = i;
                }
            }
            return first;
        }

        private int sumOf(int mask, int bits, int order) {
            int sum = 0;
            for (int way = 0; way < house.wayCount(); way++) {
                if ((way & mask) == bits && chances[way] > 0) {
                    sum += chances[way] * costs[way][order];
                }
            }
            return sum;
        }

        /** What is saved, of the whole of all chances, by knowing a bit ahead. */
        int worthOf(int bit) {
            int mask = 1 << bit;
            int unasked = sumOf(0, 0, leastOf(0, 0));
            int first = sumOf(mask, 0, leastOf(mask, 0));
            int later = sumOf(mask, mask, leastOf(mask, mask));
            return unasked - first - later;
        }

        /** The rooms of the order of this number. */
        private static void spellOut(int number, int[] order, int rooms) {
            int left = number;
            int taken = 0;
            for (int i = 0; i < rooms && i < order.length; i++) {
                int block = 1;
                for (int k = 2; k < rooms - i; k++) {
                    block *= k;
                }
                int skip = left / block;
                left %= block;
                int r = 0;
                while (r < rooms && ((taken >> r & 1) == 1 || skip > 0)) {
                    if ((taken >> r & 1) == 0) {
                        skip--;
                    }
                    r++;
                }
                order[i] = r;
                taken |= 1 << r;
            }
        }
    }
}
