import java.util.ArrayList;
import java.util.Arrays;
import java.util.List;
import java.util.TreeSet;

/**
 * Each call with the least and the greatest that each of its numbers may be, one beyond each, and the least and
 * the greatest there are, in all combinations, without and with a house and rules: which refusal is due is worked
 * out by the order in which the call tells them. Refused calls, and calls that ask alone, change nothing: an object
 * that had them answers as one that had not.
 */
public final class RefusalsTest {
    static final int NONE = Checks.NONE, UNKNOWN = Checks.UNKNOWN, OUTSIDE = Checks.OUTSIDE, STATE = Checks.STATE,
            FULL = Checks.FULL;

    static final String SMALL = "1a2g0/3g5,2b1g1,4a3g2/9g9,6c2g0/1g41;1f0t44,6f5t40;0a9,10xh3,44b1";
    static final String SIX = "1a2g0/3g5,2b1g1,4a3g2/9g9,6c2g0/1g41,1a1g1,2b1g2;1f0t44,6f5t40;0a9,10xh3,44b1";
    static final String SEVEN = "1a2g0,2b1g1/5g7,4a3g2,6c2g0,1a1g1,2b1g2,3d1g3;1f0t44;0a9";
    static final String EIGHT = "1a2g0/3g5,2b1g1,4a3g2/9g9,6c2g0,1a1g1,2b1g2,3d1g3,5c4g4/2g6;1f0t44,6f5t40,3f2t30;"
            + "0a9,10xh3,44b1,3c2,4d1,5x9,6a1,7b2";

    // ---- what an object holds

    /** What was done to it, as the test tells it, not as the object does. */
    enum World {
        NEW("", 0),
        RULED("", 8),
        SMALL_BARE(SMALL, 0),
        SMALL_ONE(SMALL, 1),
        SMALL_ALL(SMALL, 8),
        SMALL_LATE(SMALL, 8),
        SMALL_SPENT(SMALL, 8),
        SIX_ALL(SIX, 8),
        SEVEN_ALL(SEVEN, 8),
        EIGHT_ALL(EIGHT, 8),
        EIGHT_SPENT(EIGHT, 8);

        final String house;
        final int rules;

        World(String house, int rules) {
            this.house = house;
            this.rules = rules;
        }

        boolean housed() {
            return !house.isEmpty();
        }

        int count(int part) {
            return housed() ? house.split(";")[part].split(",").length : 0;
        }

        boolean toldByChance(int room) {
            return house.split(";")[0].split(",")[room].indexOf('/') > 0;
        }

        int ways() {
            int ways = 1;
            for (int r = 0; r < count(0); r++) {
                ways *= toldByChance(r) ? 2 : 1;
            }
            return ways;
        }

        boolean late(int room) {
            return this == SMALL_LATE && room == 2;
        }

        boolean spent() {
            return this == SMALL_SPENT || this == EIGHT_SPENT;
        }

        boolean imaged() {
            return housed() && this != SMALL_BARE;
        }

        RoomsByThree build() {
            RoomsByThree x = new RoomsByThree();
            for (int kind = 0; kind < 6 && kind < rules; kind++) {
                x.rule(kind, 0);
            }
            if (rules == 8) {
                x.rule(5, 1);
                Checks.told(x, "20;13");
            }
            if (spent()) {
                Checks.put(x, SMALL);
                x.house();
                for (int i = 0; i < 16; i++) {
                    x.which(0);
                }
            }
            Checks.put(x, house);
            x.house();
            if (imaged()) {
                x.late(0, 7);
                x.lift(3);
                x.image();
                x.late(0, NONE);
                x.lift(2);
            }
            if (this == SMALL_LATE) {
                x.late(2, 44);
            }
            return this == NEW ? x : Checks.put(x, "1a1;0");
        }
    }

    // ---- what a call asks

    /** What one of the numbers of a call is. */
    enum Number { RULE, ROOM, WOMAN, GUEST, WAY, RANGE }

    record Parameter(Number number, int least, int most) {
        int leastIn(World world) {
            return number == Number.RANGE ? least : 0;
        }

        int mostIn(World world) {
            switch (number) {
                case RULE:
                    return world.rules - 1;
                case ROOM:
                    return world.count(0) - 1;
                case WOMAN:
                    return world.count(1) - 1;
                case GUEST:
                    return world.count(2) - 1;
                case WAY:
                    return world.ways() - 1;
                default:
                    return most;
            }
        }

        boolean holds(World world, int value) {
            return value >= leastIn(world) && value <= mostIn(world);
        }

        int[] values(World world) {
            TreeSet<Integer> values = new TreeSet<>(Arrays.asList(0, leastIn(world), mostIn(world), leastIn(world) - 1,
                    mostIn(world) + 1, Checks.LEAST, Checks.MOST));
            if (number == Number.ROOM) {
                for (int r = 0; r < world.count(0); r++) {
                    values.add(r);
                }
            }
            return values.stream().mapToInt(Integer::intValue).toArray();
        }
    }

    static final Parameter RULE = new Parameter(Number.RULE, 0, 0), ROOM = new Parameter(Number.ROOM, 0, 0),
            WOMAN = new Parameter(Number.WOMAN, 0, 0), GUEST = new Parameter(Number.GUEST, 0, 0),
            WAY = new Parameter(Number.WAY, 0, 0), GIVING = to(1), PART = to(1);

    static Parameter to(int most) {
        return new Parameter(Number.RANGE, 0, most);
    }

    static Parameter range(int least, int most) {
        return new Parameter(Number.RANGE, least, most);
    }

    /** What a call looks at, in the order in which it tells its refusals. */
    enum Look { UNKNOWN_RULE, NO_HOUSE, UNKNOWN_ROOM, UNKNOWN_WOMAN, UNKNOWN_GUEST, NOT_BY_CHANCE, RANGES, FULL_RULES,
        SEVEN_ROOMS, SIXTEEN, NO_IMAGE }

    interface Face {
        int ask(RoomsByThree x, int[] a);
    }

    record Call(String name, Face face, List<Look> looks, Parameter... parameters) {
        int valueOf(Number number, int[] a) {
            for (int i = 0; i < a.length; i++) {
                if (parameters[i].number == number) {
                    return a[i];
                }
            }
            throw new IllegalStateException(name + " has no " + number);
        }

        boolean names(World world, Number number, int[] a) {
            return new Parameter(number, 0, 0).holds(world, valueOf(number, a));
        }

        int refusal(World world, int[] a) {
            for (Look look : looks) {
                int refusal = refusalBy(look, world, a);
                if (refusal != 0) {
                    return !name.equals("more") ? refusal : refusal == UNKNOWN ? -10000001
                            : refusal == STATE ? -10000003 : -10000002;
                }
            }
            return 0;
        }

        int refusalBy(Look look, World world, int[] a) {
            switch (look) {
                case UNKNOWN_RULE:
                    return names(world, Number.RULE, a) ? 0 : UNKNOWN;
                case UNKNOWN_ROOM:
                    return names(world, Number.ROOM, a) ? 0 : UNKNOWN;
                case UNKNOWN_WOMAN:
                    return names(world, Number.WOMAN, a) ? 0 : UNKNOWN;
                case UNKNOWN_GUEST:
                    return names(world, Number.GUEST, a) ? 0 : UNKNOWN;
                case NOT_BY_CHANCE:
                    int room = valueOf(Number.ROOM, a);
                    return world.toldByChance(room) && !world.late(room) ? 0 : UNKNOWN;
                case NO_HOUSE:
                    return world.housed() ? 0 : STATE;
                case SEVEN_ROOMS:
                    return world.count(0) <= 6 ? 0 : STATE;
                case SIXTEEN:
                    return world.spent() ? STATE : 0;
                case NO_IMAGE:
                    return world.imaged() ? 0 : STATE;
                case FULL_RULES:
                    return world.rules < 8 ? 0 : FULL;
                default:
                    return rangesHold(world, a) ? 0 : OUTSIDE;
            }
        }

        boolean rangesHold(World world, int[] a) {
            for (int i = 0; i < a.length; i++) {
                boolean ranged = parameters[i].number == Number.RANGE || parameters[i].number == Number.WAY;
                if (ranged && !parameters[i].holds(world, a[i])) {
                    return false;
                }
            }
            return !name.equals("rule") || a[0] == 5 || a[1] == 0;
        }

        boolean changes() {
            return List.of("late", "lift", "rule", "image", "restore").contains(name) || looks.contains(Look.SIXTEEN);
        }
    }

    // ---- how it is tried

    /** Enough of an object to tell it from one to which something else was done. */
    static List<Long> portrait(RoomsByThree x, World world) {
        List<Long> lines = new ArrayList<>();
        lines.add(x.digest());
        lines.add((long) x.fault(0));
        lines.add((long) x.fault(1));
        for (int rule = 5; rule < world.rules; rule++) {
            for (int room = 0; room < world.count(0); room++) {
                lines.add((long) x.done(rule, 0, room, 0));
                lines.add((long) x.done(rule, world.ways() - 1, room, 2));
            }
        }
        lines.add((long) x.which(1));
        lines.add((long) x.missed(0, 0));
        lines.add((long) x.restore());
        lines.add(x.digest());
        lines.add((long) x.image());
        lines.add((long) x.lift(6));
        lines.add((long) x.rule(4, 0));
        lines.add((long) x.letters('z'));
        lines.add((long) x.blank());
        lines.add(x.digest());
        return lines;
    }

    /** Numbers to be asked with, some hundreds for one object. */
    static final class Asked {
        final Call call;
        final World world;
        final List<Long> untouched;
        RoomsByThree x;
        int calls;

        Asked(Call call, World world) {
            this.call = call;
            this.world = world;
            this.untouched = portrait(world.build(), world);
        }

        void ask(int[] a, int refusal) {
            if (x == null) {
                x = world.build();
                calls = 0;
            }
            int got = call.face.ask(x, a);
            String told = call.name + Arrays.toString(a) + " of " + world;
            if (refusal != 0) {
                Checks.due(told, got, refusal);
            } else {
                int least = call.name.equals("more") ? -10000000 : NONE;
                Checks.due(told + " is refused by " + Math.min(got, 0), got >= least ? 1 : 0, 1);
            }
            calls++;
            boolean fresh = refusal == 0 && call.changes();
            if (fresh) {
                x = null;
            } else if (calls == 250) {
                finish();
            }
        }

        void finish() {
            if (x != null) {
                Checks.due("what " + calls + " calls of " + call.name + " changed of " + world,
                        portrait(x, world).equals(untouched) ? 0 : 1, 0);
                x = null;
            }
        }
    }

    static void every(Asked refused, Asked taken, int[] a, int at) {
        Call call = refused.call;
        if (at == a.length) {
            int refusal = call.refusal(refused.world, a);
            (refusal != 0 ? refused : taken).ask(a.clone(), refusal);
            return;
        }
        for (int value : call.parameters[at].values(refused.world)) {
            a[at] = value;
            every(refused, taken, a, at + 1);
        }
    }

    static void call(String words, String name, Face face, List<Look> looks, Parameter... parameters) {
        Checks.says(words);
        Call call = new Call(name, face, looks, parameters);
        for (World world : World.values()) {
            Asked refused = new Asked(call, world);
            Asked taken = new Asked(call, world);
            every(refused, taken, new int[parameters.length], 0);
            refused.finish();
            taken.finish();
        }
    }

    public static void main(String[] args) {
        pages();
        texts();
        facts();
        days();
        what();
        six();
        all();
        Checks.end();
    }

    /** The calls that take or read letters, with pages that they refuse. */
    static void pages() {
        Checks.says("Refusals, of several the first as told by each call: UNKNOWN (a number names nothing), OUTSIDE (it is not "
                + "as told), STATE (as told), FULL; they change nothing.");
        String full = Checks.times(160, "0", "");
        for (World world : World.values()) {
            for (String text : new String[] {"", "0;0", "8", "1a1g0;1f0t1;", full}) {
                String told = " of " + world + " with '" + text + "'";
                RoomsByThree x = paged(world, text);
                Checks.due("house()" + told, x.house(), STATE);
                Checks.due("tell()" + told, x.tell(), STATE);
                Checks.due("letters(127)" + told, x.letters(127), OUTSIDE);
                Checks.due("letters behind a 0" + told, x.letters(1L << 56 | 1), OUTSIDE);
                if (text.length() == 160) {
                    Checks.due("letters(1)" + told, x.letters(1), FULL);
                }
                Checks.due("what these changed" + told,
                        portrait(x, world).equals(portrait(paged(world, text), world)) ? 0 : 1, 0);
            }
            if (world.rules == 8) {
                RoomsByThree x = paged(world, "10;2");
                Checks.due("tell() of a ninth, " + world, x.tell(), FULL);
                Checks.due("what it changed of " + world,
                        portrait(x, world).equals(portrait(paged(world, "10;2"), world)) ? 0 : 1, 0);
            }
        }
    }

    static RoomsByThree paged(World world, String text) {
        RoomsByThree x = world.build();
        x.blank();
        return Checks.put(x, text);
    }

    static void texts() {
        call("how many letters it has, if there is none. OUTSIDE.", "fault", (x, a) -> x.fault(a[0]),
                List.of(Look.RANGES), to(1));
        call("OUTSIDE: kind (0 to 5), n (of a BEST its GIVING, 0 else); FULL.", "rule", (x, a) -> x.rule(a[0], a[1]),
                List.of(Look.RANGES, Look.FULL_RULES), to(5), to(1));
        call("NONE: it is none such (the cast fails). UNKNOWN; OUTSIDE.", "as", (x, a) -> x.as(a[0], a[1]),
                List.of(Look.UNKNOWN_RULE, Look.RANGES), RULE, to(6));
    }

    static void facts() {
        call("5 TENTHS (NONE), 6 at which it is LATE (NONE). UNKNOWN; OUTSIDE.", "room", (x, a) -> x.room(a[0], a[1]),
                List.of(Look.UNKNOWN_ROOM, Look.RANGES), ROOM, to(6));
        call("what = 0 FLOOR, 1 FROM, 2 TO. UNKNOWN; OUTSIDE.", "woman", (x, a) -> x.woman(a[0], a[1]),
                List.of(Look.UNKNOWN_WOMAN, Look.RANGES), WOMAN, to(2));
        call("2 whether HIGH (1, 0), 3 WEIGHT. UNKNOWN; OUTSIDE.", "guest", (x, a) -> x.guest(a[0], a[1]),
                List.of(Look.UNKNOWN_GUEST, Look.RANGES), GUEST, to(3));
        call("A ROOM is LATE (a QUARTER 0 to 44; NONE: not): what it was (NONE). UNKNOWN; OUTSIDE.", "late",
                (x, a) -> x.late(a[0], a[1]), List.of(Look.UNKNOWN_ROOM, Look.RANGES), ROOM, range(-1, 44));
        call("THE LIFT goes so many FLOORS: how many it did. OUTSIDE: 1 to 6.", "lift", (x, a) -> x.lift(a[0]),
                List.of(Look.RANGES), range(1, 6));
    }

    static void days() {
        call("When a ROOM is GONE by a WAY. UNKNOWN: room; STATE; OUTSIDE.", "gone", (x, a) -> x.gone(a[0], a[1]),
                List.of(Look.UNKNOWN_ROOM, Look.NO_HOUSE, Look.RANGES), ROOM, WAY);
        call("2 when it is READY (NONE: it is not done). UNKNOWN: room, behind STATE.", "done",
                (x, a) -> x.done(a[0], a[1], a[2], a[3]),
                List.of(Look.UNKNOWN_RULE, Look.NO_HOUSE, Look.UNKNOWN_ROOM, Look.RANGES), RULE, WAY, ROOM, to(2));
        call("1 how long it WAITS, 2 COST. UNKNOWN: guest, behind STATE.", "given",
                (x, a) -> x.given(a[0], a[1], a[2], a[3], a[4]),
                List.of(Look.UNKNOWN_RULE, Look.NO_HOUSE, Look.UNKNOWN_GUEST, Look.RANGES), RULE, WAY, GIVING, GUEST,
                to(2));
        call("a day (UNKNOWN: rule; STATE: no HOUSE; OUTSIDE: way (0 to 2 to the number of ROOMS BY CHANCE, less 1), "
                + "giving (0, 1) and so on)", "cost", (x, a) -> x.cost(a[0], a[1], a[2]),
                List.of(Look.UNKNOWN_RULE, Look.NO_HOUSE, Look.RANGES), RULE, WAY, GIVING);
    }

    static void what() {
        call("MEAN, in lowest terms: part 0 above, 1 below. OUTSIDE: giving, part.", "mean",
                (x, a) -> x.mean(a[0], a[1], a[2]), List.of(Look.UNKNOWN_RULE, Look.NO_HOUSE, Look.RANGES), RULE,
                GIVING, PART);
        call("WORST: what = 0 the WAY, 1 its COST.", "worst", (x, a) -> x.worst(a[0], a[1], a[2]),
                List.of(Look.UNKNOWN_RULE, Look.NO_HOUSE, Look.RANGES), RULE, GIVING, to(1));
        call("UNKNOWN: guest, behind STATE; OUTSIDE: giving, quarters (0 to 44), part.", "sure",
                (x, a) -> x.sure(a[0], a[1], a[2], a[3], a[4]),
                List.of(Look.UNKNOWN_RULE, Look.NO_HOUSE, Look.UNKNOWN_GUEST, Look.RANGES), RULE, GIVING, GUEST, to(44),
                PART);
        call("UNKNOWN: guest, behind STATE; OUTSIDE: giving, tenths (1 to 10).", "tells",
                (x, a) -> x.tells(a[0], a[1], a[2], a[3]),
                List.of(Look.UNKNOWN_RULE, Look.NO_HOUSE, Look.UNKNOWN_GUEST, Look.RANGES), RULE, GIVING, GUEST,
                range(1, 10));
        call("2 the SEED then. OUTSIDE: giving, seed (below 0), what.", "run",
                (x, a) -> x.run(a[0], a[1], a[2], a[3]), List.of(Look.UNKNOWN_RULE, Look.NO_HOUSE, Look.RANGES), RULE,
                GIVING, to(Checks.MOST), to(2));
    }

    static void six() {
        call("STATE: no HOUSE; OUTSIDE: giving, i (0 to 5); STATE: more than 6 ROOMS.", "best",
                (x, a) -> x.best(a[0], a[1]),
                List.of(Look.NO_HOUSE, Look.RANGES, Look.SEVEN_ROOMS, Look.SIXTEEN), GIVING, to(5));
        call("UNKNOWN: room (also without a HOUSE, one not BY CHANCE, one that is LATE); OUTSIDE: giving, part; "
                + "STATE: more than 6 ROOMS.", "call", (x, a) -> x.call(a[0], a[1], a[2]),
                List.of(Look.UNKNOWN_ROOM, Look.NOT_BY_CHANCE, Look.RANGES, Look.SEVEN_ROOMS, Look.SIXTEEN), GIVING,
                ROOM, PART);
        call("NONE: no ROOM is BY CHANCE. STATE; OUTSIDE: giving; STATE: more than 6 ROOMS.", "called",
                (x, a) -> x.called(a[0]), List.of(Look.NO_HOUSE, Look.RANGES, Look.SEVEN_ROOMS, Look.SIXTEEN), GIVING);
        call("MISSED. OUTSIDE: giving.", "missed", (x, a) -> x.missed(a[0], a[1]),
                List.of(Look.UNKNOWN_RULE, Look.NO_HOUSE, Look.RANGES, Look.SIXTEEN), RULE, GIVING);
        call("-10000001: UNKNOWN; -10000003: STATE (no HOUSE ahead of OUTSIDE); -10000002: OUTSIDE: giving, part.",
                "more", (x, a) -> x.more(a[0], a[1], a[2]),
                List.of(Look.UNKNOWN_RULE, Look.NO_HOUSE, Look.RANGES, Look.SIXTEEN), RULE, GIVING, PART);
        call("WHICH; NONE: there are no RULES. STATE: no HOUSE; OUTSIDE: giving.", "which", (x, a) -> x.which(a[0]),
                List.of(Look.NO_HOUSE, Look.RANGES, Look.SIXTEEN), GIVING);
    }

    static void all() {
        call("how many ROOMS are LATE. STATE: there is no HOUSE.", "image", (x, a) -> x.image(),
                List.of(Look.NO_HOUSE));
        call("how many ROOMS are LATE. STATE: none was kept, or a HOUSE was read since (of the same text, too).",
                "restore", (x, a) -> x.restore(), List.of(Look.NO_IMAGE));
        call("7 how often the six were done together (those that answered NONE, too, those refused not). OUTSIDE.",
                "count", (x, a) -> x.count(a[0]), List.of(Look.RANGES), to(7));
    }
}
