import java.math.BigInteger;
import java.util.ArrayList;
import java.util.Arrays;
import java.util.List;

/** The sentences about what may be: chances, the best order, calls, who is missed or more, days, images, all told. */
public final class ChancesTest {
    static final int NONE = Checks.NONE, UNKNOWN = Checks.UNKNOWN, OUTSIDE = Checks.OUTSIDE, STATE = Checks.STATE;
    static final int LIST = 0, FLOORS = 1, FREE = 2, PAID = 3, PROMISE = 4, BEST = 5;
    static final int MORE_STATE = -10000003;

    /** Each room has a woman and a guest of its own: bit i costs 1, 2, 4 more. */
    static final String APART = "1a1g0/1g1,1b1g0/5g1,1c1g0/9g1;1f0t44,1f0t44,1f0t44;0a1,0b2,0c4";
    /** The guest waits 1, or 10 if all are left later: by 0.9 * 0.7 * 0.3. */
    static final String ANY = "1a1g0/1g9,1a1g0/3g9,1a1g0/7g9;1f0t44,1f0t44,1f0t44;0a1,44b1";
    /** Which room is best first depends on when room 0 is left. */
    static final String DOUBT = "1a5g0/5g20,1b5g0;1f0t44;0a9,0b1";
    static final String EIGHT = Checks.times(8, "1a1g0", ",") + ";1f0t44;0a1";

    public static void main(String[] args) {
        all();
        Checks.wear();
        all();
        Checks.end();
    }

    static void all() {
        constants();
        fresh();
        mean();
        worst();
        sure();
        tells();
        best();
        bestByChance();
        bestAnew();
        bestOfMany();
        call();
        called();
        missed();
        more();
        which();
        run();
        image();
        sixteen();
        counts();
        digest();
        lastCall();
    }

    static void says(String words) {
        Checks.says(words);
    }

    static void due(String call, long got, long want) {
        Checks.due(call, got, want);
    }

    static RoomsByThree with(String house, int... kinds) {
        return Checks.with(house, kinds);
    }

    static void constants() {
        says("public static final int NONE = -1, UNKNOWN = -101, OUTSIDE = -102, STATE = -103, FULL = -104;");
        due("NONE", RoomsByThree.NONE, -1);
        due("UNKNOWN", RoomsByThree.UNKNOWN, -101);
        due("OUTSIDE", RoomsByThree.OUTSIDE, -102);
        due("STATE", RoomsByThree.STATE, -103);
        due("FULL", RoomsByThree.FULL, -104);
    }

    static void fresh() {
        says("No HOUSE, no RULES.");
        RoomsByThree x = new RoomsByThree();
        for (int what = 0; what < 8; what++) {
            due("count(" + what + ")", x.count(what), 0);
        }
        due("room(0, 0)", x.room(0, 0), UNKNOWN);
        due("woman(0, 0)", x.woman(0, 0), UNKNOWN);
        due("guest(0, 0)", x.guest(0, 0), UNKNOWN);
        due("as(0, 0)", x.as(0, 0), UNKNOWN);
        due("house()", x.house(), STATE);
        due("tell()", x.tell(), STATE);
        due("image()", x.image(), STATE);
        due("restore()", x.restore(), STATE);
        due("best(0, 0)", x.best(0, 0), STATE);
        due("called(0)", x.called(0), STATE);
        due("which(0)", x.which(0), STATE);
        due("more(0, 0, 0)", x.more(0, 0, 0), -10000001);
        due("missed(0, 0)", x.missed(0, 0), UNKNOWN);
        due("lift(2)", x.lift(2), 2);
        due("digest()", x.digest(), hash(2, 0, 0, 0, 0, 0, 0, 0, 0));
        RoomsByThree other = with(DOUBT, LIST);
        other.late(0, 3);
        due("one object is not another", new RoomsByThree().digest(), hash(2, 0, 0, 0, 0, 0, 0, 0, 0));

        says("Without a HOUSE: STATE behind UNKNOWN.");
        RoomsByThree ruled = new RoomsByThree();
        ruled.rule(BEST, 1);
        int[] asked = {ruled.done(0, 0, 0, 0), ruled.given(0, 0, 0, 0, 0), ruled.cost(0, 0, 0), ruled.mean(0, 0, 0),
            ruled.worst(0, 0, 0), ruled.sure(0, 0, 0, 0, 0), ruled.tells(0, 0, 0, 1), ruled.run(0, 0, 0, 0),
            ruled.missed(0, 0), ruled.best(0, 0), ruled.called(0), ruled.which(0)};
        for (int i = 0; i < asked.length; i++) {
            due("call " + i + " of one with a rule alone", asked[i], STATE);
        }
        due("more", ruled.more(0, 0, 0), MORE_STATE);
        int[] unknown = {x.done(0, 9, 9, 9), x.given(0, 9, 9, 9, 9), x.cost(0, 9, 9), x.mean(0, 9, 9), x.worst(0, 9, 9),
            x.sure(0, 9, 9, 99, 9), x.tells(0, 9, 9, 99), x.run(0, 9, -9, 9), x.missed(0, 9), x.call(9, 0, 9),
            x.gone(0, 9)};
        for (int i = 0; i < unknown.length; i++) {
            due("call " + i + " of a new one", unknown[i], UNKNOWN);
        }
    }

    // ---- over all ways

    static void terms(String what, int above, int below, long dueAbove, long dueBelow) {
        due(what + ", above", above, dueAbove);
        due(what + ", below", below, dueBelow);
    }

    static void meanIs(RoomsByThree x, int rule, int giving, long above, long below) {
        terms("mean", x.mean(rule, giving, 0), x.mean(rule, giving, 1), above, below);
    }

    static void mean() {
        says("by so many TENTHS it is GONE at the first one, else at the later one");
        int[][] terms = {{19, 10}, {9, 5}, {17, 10}, {8, 5}, {3, 2}, {7, 5}, {13, 10}, {6, 5}, {11, 10}};
        for (int tenths = 1; tenths <= 9; tenths++) {
            RoomsByThree x = with("1a1g0/" + tenths + "g1;1f0t44;0a1", LIST);
            meanIs(x, 0, 0, terms[tenths - 1][0], terms[tenths - 1][1]);
            meanIs(x, 0, 1, terms[tenths - 1][0], terms[tenths - 1][1]);
        }

        says("MEAN: COST of all together over all WAYS by their chances.");
        RoomsByThree apart = with(APART, LIST);
        meanIs(apart, 0, 0, 93, 10);
        RoomsByThree any = with(ANY, LIST);
        meanIs(any, 0, 0, 2701, 1000);
        meanIs(any, 0, 1, 2701, 1000);
        any.late(0, 9);
        meanIs(any, 0, 0, 289, 100);
        any.late(2, 9);
        meanIs(any, 0, 0, 73, 10);
        any.late(1, 8);
        meanIs(any, 0, 0, 9, 1);
        any.late(1, 0);
        meanIs(any, 0, 0, 1, 1);

        says("MEAN, in lowest terms: part 0 above, 1 below.");
        meanIs(with("1a1g0/5g9,1a1g0/5g9,1a1g0/5g9;1f0t44,1f0t44,1f0t44;0a8", LIST), 0, 0, 17, 1);
        meanIs(with("1a1g0/5g9,1a1g0/5g9,1a1g0/5g9;1f0t44,1f0t44,1f0t44;0a1", LIST), 0, 0, 17, 8);
        meanIs(with("1a1g0/5g9,1a1g0/5g9,1a1g0/5g9;1f0t44,1f0t44,1f0t44;44a1", LIST), 0, 0, 0, 1);
        meanIs(with("1d1g0/1g1,1d1g0/1g1,1d1g0/1g1;1f0t44;" + Checks.times(8, "0a9", ","), LIST), 0, 1, 3168, 1);
        meanIs(with(EIGHT, LIST), 0, 0, 1, 1);
    }

    static void worst() {
        says("WORST: the WAY of most COST, of like ones the least.");
        RoomsByThree x = with(APART, LIST);
        due("the way", x.worst(0, 0, 0), 7);
        due("its cost", x.worst(0, 0, 1), 14);
        x.late(1, 0);
        due("late: its bit tells nothing", x.worst(0, 0, 0), 5);
        due("its cost", x.worst(0, 0, 1), 12);
        x.late(0, 0);
        due("late: the last one", x.worst(0, 1, 0), 4);
        x.late(2, 1);
        due("all are late: the least", x.worst(0, 1, 0), 0);
        due("its cost", x.worst(0, 1, 1), 11);
        RoomsByThree any = with(ANY, LIST);
        due("all later", any.worst(0, 0, 0), 7);
        RoomsByThree some = with("1a1g0/5g9,1a1g0/5g9,1d1g0/5g9;1f0t44,1f0t44,1f0t44;0a1", LIST);
        due("of like ones the least", some.worst(0, 0, 0), 3);
        RoomsByThree none = with("1a1g0/5g9;1f0t44;44a9", LIST);
        due("none costs", none.worst(0, 0, 0), 0);
        due("none costs", none.worst(0, 0, 1), 0);
        RoomsByThree sooner = with("1a1g0/9g1,1b1g0;1f0t1;0a1,0b9", LIST);
        due("the first quarter may be worse", sooner.cost(0, 0, 0), 1 + 44 * 9);
        due("than the later one", sooner.cost(0, 1, 0), 44 + 9);
        due("so the way is 0", sooner.worst(0, 0, 0), 0);
        due("by its cost", sooner.worst(0, 0, 1), 397);
        RoomsByThree sure = with(EIGHT, LIST);
        due("one way alone", sure.worst(0, 0, 0), 0);
        due("its cost", sure.worst(0, 0, 1), 1);
    }

    static void sureIs(RoomsByThree x, int guest, int quarters, long above, long below) {
        for (int giving = 0; giving < 2; giving++) {
            terms("sure of " + guest + " for " + quarters, x.sure(0, giving, guest, quarters, 0),
                    x.sure(0, giving, guest, quarters, 1), above, below);
        }
    }

    static void sure() {
        says("SURE of a GUEST and QUARTERS: the chance that it WAITS no longer.");
        RoomsByThree x = with(ANY, LIST);
        sureIs(x, 0, 0, 0, 1);
        sureIs(x, 0, 1, 811, 1000);
        sureIs(x, 0, 2, 811, 1000);
        sureIs(x, 0, 9, 811, 1000);
        sureIs(x, 0, 10, 1, 1);
        sureIs(x, 0, 44, 1, 1);
        sureIs(x, 1, 0, 1, 1);
        x.late(0, 9);
        sureIs(x, 0, 9, 79, 100);
        for (int tenths = 1; tenths <= 9; tenths++) {
            RoomsByThree y = with("1a1g0/" + tenths + "g40,1b1g0;1f0t44,1f0t44;0a1,0c1", LIST);
            int divisor = tenths % 2 == 0 ? 2 : tenths == 5 ? 5 : 1;
            sureIs(y, 0, 1, tenths / divisor, 10 / divisor);
            sureIs(y, 0, 40, tenths / divisor, 10 / divisor);
            sureIs(y, 0, 41, 1, 1);
            sureIs(y, 1, 43, 0, 1);
            sureIs(y, 1, 44, 1, 1);
        }
    }

    static void tells() {
        says("TELLS: the least number of QUARTERS of which one is SURE by so many TENTHS.");
        for (int tenths = 1; tenths <= 9; tenths++) {
            RoomsByThree x = with("1a1g0/" + tenths + "g10;1f0t44;0a1,0b1,44b1,1a1", LIST);
            for (int by = 1; by <= 10; by++) {
                due(tenths + " tenths, by " + by, x.tells(0, 0, 0, by), by <= tenths ? 1 : 11);
                due("who is given none", x.tells(0, 0, 1, by), 44);
                due("who comes at 44", x.tells(0, 1, 2, by), 0);
                due("who comes behind", x.tells(0, 0, 3, by), 43);
            }
        }
        RoomsByThree any = with(ANY, LIST);
        due("811 of 1000 by 8", any.tells(0, 0, 0, 8), 1);
        due("811 of 1000 by 9", any.tells(0, 0, 0, 9), 10);
        due("by 10", any.tells(0, 0, 0, 10), 10);
        any.late(2, 9);
        due("37 of 100 by 3", any.tells(0, 0, 0, 3), 1);
        due("37 of 100 by 4", any.tells(0, 0, 0, 4), 10);
        any.late(1, 0);
        due("wholly", any.tells(0, 0, 0, 10), 1);
    }

    // ---- the best order

    static void order(RoomsByThree x, int giving, int... rooms) {
        for (int i = 0; i < 6; i++) {
            due("best(" + giving + ", " + i + ")", x.best(giving, i), i < rooms.length ? rooms[i] : NONE);
        }
    }

    static void best() {
        says("with 6 ROOMS at most of all orders of them that by which, as a LIST in this order, MEAN by that GIVING is "
                + "least; of like ones the first (by the first ROOM, then the second, and so on)");
        for (int rooms = 1; rooms <= 6; rooms++) {
            int[] first = {0, 1, 2, 3, 4, 5};
            order(with(Checks.times(rooms, "1a1g0", ",") + ";1f0t44;44a1"), 0, Arrays.copyOf(first, rooms));
            order(with(Checks.times(rooms, "1a1g0", ",") + ";1f0t44;0b1"), 1, Arrays.copyOf(first, rooms));
        }
        order(with("1a9g0,1b1g0,1c1g0;1f0t44;0b9"), 0, 1, 0, 2);
        order(with("1a9g0,1b1g0,1c1g0;1f0t44;0c9"), 1, 2, 0, 1);
        order(with("1a1g0,1b1g0,1c1g0;1f0t44;0b8,0c9"), 1, 2, 1, 0);
        order(with("1a1g0,1b1g0,1c1g0;1f0t44;0b9,0c9"), 0, 1, 2, 0);
        order(with("1a9g0,1a8g0,1a7g0,1a6g0,1a5g0,1a4g0;1f0t44;" + Checks.times(6, "0a1", ",")), 0, 5, 4, 3, 2, 1, 0);
        order(with("1a9g0,1a8g0,1a7g0,1a6g0,1a5g0,1a4g0;1f0t44;" + Checks.times(6, "0a1", ",")), 1, 5, 4, 3, 2, 1, 0);
        for (int giving = 0; giving < 2; giving++) {
            // Rooms on other floors, and some that she does not do any more by one order or by all.
            order(with("1a1g1,5a1g0;5f0t5;0x8"), giving, 1, 0);
            order(with("1a1g0,5b2g0;1f2t8;0b2"), giving, 1, 0);
            order(with("1a1g0,1a4g0;5f0t6;0a8,0a5"), giving, 0, 1);
            order(with("1a1g0,5b5g4;5f2t9;0b6"), giving, 1, 0);
            order(with("1a1g2,1b4g0;5f1t7;0b2"), giving, 1, 0);
            order(with("1a2g5,1b4g0;1f0t6;0b9"), giving, 0, 1);
            order(with("1a9g0,1a9g0,1a9g0;1f0t8;0a9"), giving, 0, 1, 2);
            // One room alone is done, wherever it stands, the last place, too: all orders are alike.
            order(with("1a9g0,1a9g0,1a9g0,1a9g0,1a9g0,1b1g0;1f0t1;0b1"), giving, 0, 1, 2, 3, 4, 5);
            order(with("1a9g0,1b1g0;1f0t1;0b1"), giving, 0, 1);
        }
        // As they come the light guest takes what is ready first; wisely the heavy one does.
        RoomsByThree two = with("1b5g0,1a3g0;1f0t44;0x1,1a9,1b1");
        order(two, 0, 0, 1);
        order(two, 1, 1, 0);
        RoomsByThree kept = with("1b5g0,1a3g0;1f0t44;0x1,1a9,1b1", BEST);
        kept.rule(BEST, 1);
        due("a BEST by 0: room 0 first", kept.done(0, 0, 0, 2), 5);
        due("a BEST by 1: room 1 first", kept.done(1, 0, 0, 2), 8);
        due("a BEST by 0, mean by 0", kept.mean(0, 0, 0), 5 + 7 * 9 + 43);
        due("a BEST by 1, mean by 0", kept.mean(1, 0, 0), 3 + 43 * 9 + 7);

        says("The order of a BEST by a GIVING: the i-th ROOM (NONE: there is none).");
        RoomsByThree x = with("1a9g0,1b1g0;1f0t44;0a1,0b9");
        order(x, 0, 1, 0);
        x.late(1, 20);
        order(x, 0, 0, 1);
        RoomsByThree one = with("6d9g40/9g41;1f0t1;0a1");
        order(one, 0, 0);
        order(one, 1, 0);
        due("i 6", one.best(0, 6), OUTSIDE);
        due("i -1", one.best(0, -1), OUTSIDE);
        due("giving 2", one.best(2, 0), OUTSIDE);
        due("giving -1", one.best(-1, 0), OUTSIDE);
    }

    static void bestByChance() {
        says("A BEST (by a GIVING): with 6 ROOMS at most of all orders of them that by which, as a LIST in this order, MEAN "
                + "by that GIVING is least");
        int[][] doubts = {{1, 433, 2, 1}, {5, 155, 1, 0}, {9, 75, 1, 0}};
        for (int[] row : doubts) {
            RoomsByThree x = with("1a5g0/" + row[0] + "g20,1b5g0;1f0t44;0a9,0b1", BEST);
            x.rule(BEST, 1);
            for (int giving = 0; giving < 2; giving++) {
                meanIs(x, giving, giving, row[1], row[2]);
                due("by " + row[0] + " tenths the first", x.best(giving, 0), row[3]);
                for (int way = 0; way < 2; way++) {
                    due("one order for all ways", x.done(giving, way, 1, 2), row[3] == 1 ? 5 : way == 0 ? 10 : 30);
                }
            }
        }
    }

    /** When a room is ready by a BEST of each giving. */
    static void readyByBest(String when, RoomsByThree x, int room, int quarter) {
        due("a BEST by 0, " + when, x.done(0, 0, room, 2), quarter);
        due("a BEST by 1, " + when, x.done(1, 0, room, 2), quarter);
    }

    static void bestAnew() {
        says("by which, as a LIST in this order, MEAN by that GIVING is least");
        RoomsByThree x = with("1a9g0,1b1g0;1f0t44;0a1,0b9", BEST);
        x.rule(BEST, 1);
        readyByBest("at first", x, 0, 10);
        x.image();
        x.late(1, 20);
        readyByBest("one is late", x, 0, 9);
        x.late(1, NONE);
        readyByBest("it is not", x, 0, 10);
        x.late(1, 20);
        readyByBest("it is late again", x, 0, 9);
        x.restore();
        readyByBest("behind restore()", x, 0, 10);
        Checks.put(x, "1a1g0,1b9g0;1f0t44;0a9,0b1");
        readyByBest("another house is on the page alone", x, 0, 10);
        x.house();
        readyByBest("another house is read", x, 0, 1);
        Checks.put(x, "6a1g0,1b3g0;1f0t44;0a9,0b5");
        x.house();
        readyByBest("the lift goes 2", x, 1, 3);
        x.lift(6);
        readyByBest("the lift goes 6", x, 1, 6);
        x.lift(1);
        readyByBest("the lift goes 1", x, 1, 3);
        x.lift(6);
        x.image();
        x.lift(1);
        readyByBest("the lift goes 1", x, 1, 3);
        x.restore();
        readyByBest("the lift is restored", x, 1, 6);
        x.late(0, 45);
        x.lift(7);
        x.missed(0, 0);
        x.more(1, 1, 0);
        x.called(0);
        x.which(1);
        readyByBest("behind other calls", x, 1, 6);
    }

    static void bestOfMany() {
        says("with more as a LIST.");
        String six = "1b9g0,1b9g0,1b9g0,1b9g0,1b1g0,1a1g0";
        String guests = ";1f0t44;0a9";
        RoomsByThree x = with(six + guests, LIST, BEST);
        due("six: the best", x.done(1, 0, 5, 2), 1);
        due("six: a LIST", x.done(0, 0, 5, 2), 38);
        RoomsByThree seven = with("1b1g0," + six + guests, LIST, BEST);
        seven.rule(BEST, 1);
        for (int rule = 0; rule < 3; rule++) {
            due("seven, rule " + rule, seven.done(rule, 0, 6, 2), 39);
            due("seven, mean of rule " + rule, seven.mean(rule, 0, 0), 39 * 9);
        }
        due("seven: best", seven.best(0, 0), STATE);
        due("seven: called", seven.called(0), STATE);
        due("none of them was counted", seven.count(7), 0);
        due("missed works with seven", seven.missed(1, 0), 0);
        due("which works with seven", seven.which(0), 0);
        due("more works with seven", seven.more(1, 0, 0), 39 * 9 - 20 * 9);
    }

    static void call() {
        says("it is told then when it is GONE; by each answer the best order of ROOMS (as a BEST's) is chosen anew; WORTH: "
                + "MEAN of a BEST less what is to be expected so.");
        int[][] worth = {{1, 4, 1}, {5, 25, 2}, {9, 5, 2}};
        for (int[] row : worth) {
            RoomsByThree x = with("1a5g0/" + row[0] + "g20,1b5g0;1f0t44;0a9,0b1");
            for (int giving = 0; giving < 2; giving++) {
                terms("worth by " + row[0], x.call(giving, 0, 0), x.call(giving, 0, 1), row[1], row[2]);
            }
        }
        RoomsByThree nothing = with("1a5g0/5g20;1f0t44;0a9");
        terms("of one room alone", nothing.call(0, 0, 0), nothing.call(0, 0, 1), 0, 1);
        RoomsByThree third = with("1c1g0,1a5g0/5g20,1b5g0,1c1g0/5g1;1f0t44;0a9,0b1");
        terms("the room, not the bit", third.call(0, 1, 0), third.call(0, 1, 1), 25, 2);
        due("not by chance", third.call(0, 0, 0), UNKNOWN);
        due("not by chance", third.call(0, 2, 0), UNKNOWN);
        RoomsByThree both = with("5b2g0/5g7,1b1g0/5g6;5f2t9;4x9,0x7", BEST);
        meanIs(both, 0, 0, 239, 1);
        terms("of the first of two", both.call(0, 0, 0), both.call(0, 0, 1), 357, 4);
        terms("of the second of two", both.call(0, 1, 0), both.call(0, 1, 1), 159, 2);
        due("the first is called", both.called(0), 0);
        RoomsByThree six = with("1a5g0/5g20,1b5g0,1c1g0,1c1g0,1c1g0,1c1g0;1f0t44;0a9,0b1");
        terms("of six rooms", six.call(1, 0, 0), six.call(1, 0, 1), 25, 2);
        RoomsByThree seven = with("1a5g0/5g20,1b5g0,1c1g0,1c1g0,1c1g0,1c1g0,1c1g0;1f0t44;0a9,0b1");
        due("of seven", seven.call(0, 0, 0), STATE);
        due("of seven, one not by chance", seven.call(0, 1, 0), UNKNOWN);
        due("of seven, no giving", seven.call(2, 0, 0), OUTSIDE);

        says("UNKNOWN: room (also without a HOUSE, one not BY CHANCE, one that is LATE)");
        RoomsByThree x = with(DOUBT);
        due("by chance", x.call(0, 0, 0), 25);
        due("behind all", x.call(0, 2, 0), UNKNOWN);
        due("ahead of all", x.call(0, -1, 0), UNKNOWN);
        x.late(0, 0);
        due("late", x.call(0, 0, 0), UNKNOWN);
        due("late, ahead of OUTSIDE", x.call(2, 0, 2), UNKNOWN);
        x.late(0, NONE);
        due("not late any more", x.call(0, 0, 1), 2);
        due("without a house", new RoomsByThree().call(0, 0, 0), UNKNOWN);
        due("counted are two", x.count(7), 2);
    }

    static void called() {
        says("CALLED: the ROOM of most WORTH, of like ones the least.");
        RoomsByThree like = with("1a1g0,1a1g0/5g1,1a1g0/5g1,1a1g0/5g1;1f0t44;44a1");
        due("of like ones the least", like.called(0), 1);
        like.late(1, 0);
        due("then the next", like.called(0), 2);
        like.late(2, 44);
        due("then the last", like.called(1), 3);
        RoomsByThree most = with("1c1g0/5g1,1b5g0,1a5g0/5g20;1f0t44;0a9,0b1");
        due("the one of most", most.called(0), 2);
        due("the one of most", most.called(1), 2);
        due("the first one has more", with("5b2g0/5g7,1b1g0/5g6;5f2t9;4x9,0x7").called(0), 0);
        due("whichever stands first", with("1b1g0/5g6,5b2g0/5g7;5f2t9;4x9,0x7").called(0), 1);

        says("CALLED; NONE: no ROOM is BY CHANCE.");
        like.late(3, 7);
        due("all are late", like.called(0), NONE);
        due("it is counted", like.count(7), 4);
        due("none was told so", with("1a1g0;1f0t44;0a1").called(0), NONE);
        due("one alone", with("1a1g0/1g1;1f0t44;0a1").called(0), 0);
        like.late(3, NONE);
        due("one again", like.called(0), 3);
    }

    static void missed() {
        says("MISSED: the WOMAN without whom MEAN of a RULE is most more; of like ones the least (of one alone: she). (All "
                + "others keep their numbers.)");
        for (int kind = 0; kind < 6; kind++) {
            due("one alone, kind " + kind, with("1a1g0;1f0t44;0a1", kind).missed(0, 0), 0);
            due("like ones, kind " + kind, with("1a1g0;1f0t44,1f0t44,1f0t44;44a1", kind).missed(0, 1), 0);
            due("the last, kind " + kind, with("6a1g0;1f0t1,1f0t1,6f0t44;0a1", kind).missed(0, 0), 2);
            due("the second, kind " + kind, with("6a1g0;1f0t1,6f0t44,1f0t1;0a1", kind).missed(0, 1), 1);
        }
        RoomsByThree x = with("1a1g0,1b2g0,1c3g0;1f0t44,1f0t44,1f0t44;0a1,0b1,0c1");
        due("told her room, all three", Checks.told(x, "0;1;2"), 0);
        due("without her 44 for 1, 2, 3: the first", x.missed(0, 0), 0);
        due("another", Checks.told(x, "2;1;0"), 1);
        due("the third has the shortest", x.missed(1, 0), 2);
        due("the second has none", Checks.told(x, "2;;0"), 2);
        due("the third still", x.missed(2, 1), 2);
        due("none has any", Checks.told(x, ";;"), 3);
        due("of like ones the least", x.missed(3, 1), 0);
        RoomsByThree floors = with("3a1g0;3f0t44,4f0t44;0a1", FLOORS);
        due("her floor falls to another", floors.missed(0, 0), 0);
        due("all are there again", floors.done(0, 0, 0, 0), 0);
        due("all are there again", floors.count(1), 2);
        due("without the first the second does it", with("3a1g0;3f0t44,4f0t44,1f0t2;0b1", FLOORS).missed(0, 0), 0);
        for (int tenths = 1; tenths <= 9; tenths += 8) {
            RoomsByThree chance = with("1a1g0/" + tenths + "g40,1b1g10;1f0t44,1f0t44;0a1,0b1");
            Checks.told(chance, "0;1");
            due("by the mean over all ways, tenths " + tenths, chance.missed(0, 0), tenths == 1 ? 1 : 0);
        }
        RoomsByThree less = with("4a2g0,4b1g4;2f1t9,2f0t9;0a2,0b5", FREE);
        due("both cost 36", less.cost(0, 0, 0), 36);
        due("most more: 33 - 36 is more than 31 - 36", less.missed(0, 0), 1);
        RoomsByThree best = with("1a2g4,5b3g1;1f1t8,5f0t8;0b5", BEST);
        due("both cost 20", best.cost(0, 0, 0), 20);
        due("the best without each, 20 and 30", best.missed(0, 0), 1);
        due("both are there again", best.cost(0, 0, 0), 20);
    }

    static void moreIs(RoomsByThree x, int rule, int giving, long above, long below) {
        terms("more", x.more(rule, giving, 0), x.more(rule, giving, 1), above, below);
    }

    static void more() {
        says("MORE: how much less MEAN is with one WOMAN more, as the first one is, numbered behind all (so that a TOLD may "
                + "tell of her).");
        moreIs(with("1a4g0,1a4g0;1f0t4,6f0t44;0a1,0a1", LIST), 0, 0, 3, 1);
        moreIs(with("1a4g0,1a4g0;6f0t44,1f0t4;0a1,0a1", LIST), 0, 0, 0, 1);
        moreIs(with("1a1g0/3g1,1b1g0;1f0t44;0a1,0b1", LIST), 0, 0, 17, 10);
        for (int women = 1; women <= 3; women++) {
            RoomsByThree x = with(Checks.times(4, "1a4g0", ",") + ";" + Checks.times(women, "1f0t4", ",")
                    + ";0a1,0a1,0a1,0a1", LIST, FLOORS, FREE, PAID, PROMISE, BEST);
            for (int rule = 0; rule < 6; rule++) {
                due(women + " women and one, rule " + rule, x.more(rule, 0, 0), rule == FLOORS ? 0 : 40);
            }
            due("she is gone again", x.count(1), women);
            due("and does nothing", x.done(LIST, 0, women, 0), NONE);
        }
        for (int women = 1; women <= 3; women++) {
            RoomsByThree x = with("1a1g0,1a1g0,1a1g0;" + Checks.times(women, "1f0t1", ",") + ";0a1,0a1,0a1");
            Checks.told(x, "0;1;2");
            due("told of her, behind " + women, x.more(0, 1, 0), women < 3 ? 43 : 0);
        }

        RoomsByThree best = with("1a1g0,1b2g0,1b4g3;5f2t8;0b5,0b3", BEST);
        due("the best of one alone", best.cost(0, 0, 0), 162);
        moreIs(best, 0, 0, 162 - 54, 1);
        due("of one alone again", best.cost(0, 0, 0), 162);

        says("MORE, in lowest terms (above it may be below 0).");
        RoomsByThree less = with("3a2g0,3b2g3;6f0t10;0a8,0b7", FREE);
        moreIs(less, 0, 0, -7, 1);
        RoomsByThree half = with("3a2g0,3b2g3,1d1g0/5g1;6f0t10;0a8,0b7", FREE);
        due("below is above 0", half.more(0, 0, 1) > 0 ? 1 : 0, 1);
        moreIs(with("1d1g0;1f0t44;" + Checks.times(8, "0a9", ","), LIST), 0, 0, 0, 1);

        says("-10000001: UNKNOWN; -10000003: STATE (no HOUSE ahead of OUTSIDE); -10000002: OUTSIDE: giving, part.");
        due("no rule", less.more(1, 0, 0), -10000001);
        due("no rule, and OUTSIDE", less.more(-1, 2, 2), -10000001);
        due("giving", less.more(0, 2, 0), -10000002);
        due("giving", less.more(0, -1, 0), -10000002);
        due("part", less.more(0, 0, 2), -10000002);
        due("part", less.more(0, 0, -1), -10000002);
        RoomsByThree none = new RoomsByThree();
        due("no house, no rule", none.more(0, 2, 2), -10000001);
        none.rule(LIST, 0);
        due("no house", none.more(0, 0, 0), -10000003);
        due("no house, and OUTSIDE", none.more(0, 2, 2), -10000003);
    }

    static void which() {
        says("WHICH by a GIVING: the RULE of least MEAN, of like ones the least.");
        RoomsByThree x = with("1a9g0,1b1g0;1f0t44;0a1,0b9");
        due("tell none", Checks.told(x, ";"), 0);
        due("of one", x.which(0), 0);
        x.rule(LIST, 0);
        due("the LIST is better", x.which(0), 1);
        x.rule(PAID, 0);
        due("the PAID is better", x.which(0), 2);
        x.rule(BEST, 0);
        x.rule(BEST, 1);
        due("a BEST is as good: the least", x.which(1), 2);
        x.rule(LIST, 0);
        x.rule(LIST, 0);
        due("the eighth", Checks.told(x, "10"), 7);
        due("of eight", x.which(0), 2);
        RoomsByThree last = with("1a9g0,1b1g0;1f0t44;0a1,0b9", LIST, LIST, LIST, LIST, LIST, LIST, LIST, PAID);
        due("the last of eight", last.which(0), 7);
        RoomsByThree two = with("1b5g0,1a3g0;1f0t44;0x1,1a9,1b1");
        two.rule(BEST, 1);
        two.rule(BEST, 0);
        due("by 0 the one that is best by 0", two.which(0), 1);
        due("by 1 the one that is best by 1", two.which(1), 0);

        says("WHICH; NONE: there are no RULES. STATE: no HOUSE; OUTSIDE: giving.");
        RoomsByThree bare = with("1a9g0;1f0t44;0a1");
        due("no rules", bare.which(0), NONE);
        due("no rules", bare.which(1), NONE);
        due("no giving", bare.which(2), OUTSIDE);
        due("counted", bare.count(7), 2);
        due("no house", new RoomsByThree().which(0), STATE);
        due("no house, no giving", new RoomsByThree().which(2), STATE);
    }

    // ---- days

    static final BigInteger STEP = BigInteger.valueOf(1103515245L), TWO_31 = BigInteger.ONE.shiftLeft(31);

    static int next(int seed) {
        return BigInteger.valueOf(seed).multiply(STEP).add(BigInteger.valueOf(12345)).mod(TWO_31).intValueExact();
    }

    static void run() {
        says("the next one: 1103515245 times it and 12345, its rest by 2 to the 31.");
        RoomsByThree one = with("1a1g0/5g1;1f0t44;0a1", LIST);
        due("behind 0", one.run(0, 0, 0, 2), 12345);
        due("behind 1", one.run(0, 0, 1, 2), 1103527590);
        due("behind 2", one.run(0, 0, 2, 2), 59559187);
        due("behind the greatest", one.run(0, 0, Checks.MOST, 2), next(Checks.MOST));
        due("behind the greatest", next(Checks.MOST), 1043980748);
        for (int bit = 0; bit < 31; bit++) {
            due("behind 2 to the " + bit, one.run(0, 0, 1 << bit, 2), next(1 << bit));
        }
        due("seed -1", one.run(0, 0, -1, 2), OUTSIDE);
        due("the least seed", one.run(0, 0, Checks.LEAST, 2), OUTSIDE);

        says("A DRAW of d: the next SEED, by 65536 (rounded down), its rest by d: for each ROOM BY CHANCE, in order, it is "
                + "GONE at the first QUARTER, if a DRAW of 10 is below its TENTHS: that WAY.");
        boolean[] drawn = new boolean[10];
        for (int tenths = 1; tenths <= 9; tenths++) {
            RoomsByThree x = with("1a1g0/" + tenths + "g1;1f0t44;0a1", LIST);
            for (int i = 0; i < 100; i++) {
                int draw = next(i * 7919) / 65536 % 10;
                drawn[draw] = true;
                due("way by seed " + i * 7919 + ", tenths " + tenths, x.run(0, 0, i * 7919, 0), draw < tenths ? 0 : 1);
                due("cost by it", x.run(0, 1, i * 7919, 1), draw < tenths ? 1 : 2);
            }
        }
        for (int draw = 0; draw < 10; draw++) {
            due("a draw of " + draw + " was seen", drawn[draw] ? 1 : 0, 1);
        }
        int[] tenths = {3, 5, 7};
        boolean[] ways = new boolean[8];
        RoomsByThree three = null;
        for (int seed = 0; seed < 150; seed++) {
            if (seed % 50 == 0) {
                three = with("1d1g0,1a1g0/3g1,1b1g0/5g1,1c1g0/7g1;1f0t44,1f0t44,1f0t44;0a1,0b2,0c4", LIST);
            }
            int now = seed;
            int way = 0;
            for (int i = 0; i < 3; i++) {
                now = next(now);
                way |= now / 65536 % 10 < tenths[i] ? 0 : 1 << i;
            }
            ways[way] = true;
            due("way by seed " + seed, three.run(0, 0, seed, 0), way);
            due("seed then", three.run(0, 1, seed, 2), now);
            due("cost by it", three.run(0, 0, seed, 1), three.cost(0, way, 0));
        }
        for (int way = 0; way < 8; way++) {
            due("way " + way + " was seen", ways[way] ? 1 : 0, 1);
        }

        says("then it is not BY CHANCE; its bit stays, and tells nothing");
        RoomsByThree late = with(APART, LIST);
        late.late(1, 1);
        for (int seed = 0; seed < 60; seed++) {
            int first = next(seed);
            int second = next(first);
            int way = (first / 65536 % 10 < 1 ? 0 : 1) | (second / 65536 % 10 < 9 ? 0 : 4);
            due("no draw for it: the way", late.run(0, 0, seed, 0), way);
            due("no draw for it: the seed", late.run(0, 0, seed, 2), second);
        }
        late.late(0, 0);
        late.late(2, 0);
        due("all are late: the way", late.run(0, 0, 5, 0), 0);
        due("all are late: the seed", late.run(0, 0, 5, 2), 5);
        RoomsByThree none = with(EIGHT, LIST);
        for (int seed : new int[] {0, 1, 65536, Checks.MOST}) {
            due("none by chance: the way", none.run(0, 0, seed, 0), 0);
            due("none by chance: the seed", none.run(0, 0, seed, 2), seed);
            due("none by chance: the cost", none.run(0, 0, seed, 1), 1);
        }
    }

    // ---- what is told of all

    static void image() {
        says("An IMAGE is kept (one; the latest): how many ROOMS are LATE. STATE: there is no HOUSE.");
        RoomsByThree x = with(EIGHT, LIST);
        for (int late = 0; late <= 8; late++) {
            due("image of " + late + " late", x.image(), late);
            if (late < 8) {
                x.late(late, late * 6);
            }
        }
        for (int r = 0; r < 8; r++) {
            x.late(r, NONE);
        }
        due("the latest", x.restore(), 8);
        for (int r = 0; r < 8; r++) {
            due("room(" + r + ", 6)", x.room(r, 6), r * 6);
        }
        x.late(7, NONE);
        due("image of seven", x.image(), 7);
        x.late(7, 3);
        due("the latest alone", x.restore(), 7);
        due("no house", new RoomsByThree().image(), STATE);
        RoomsByThree ruled = new RoomsByThree();
        ruled.rule(LIST, 0);
        due("no house, a rule", ruled.image(), STATE);
        due("nor restored", ruled.restore(), STATE);

        says("An IMAGE keeps what is LATE, and THE LIFT.");
        RoomsByThree y = with(DOUBT, LIST, BEST);
        y.late(0, 0);
        y.lift(6);
        y.image();
        y.late(0, 44);
        y.late(1, 1);
        y.lift(1);
        y.rule(PAID, 0);
        y.letters('z');
        y.which(0);
        due("restore()", y.restore(), 1);
        due("room 0", y.room(0, 6), 0);
        due("room 1", y.room(1, 6), NONE);
        due("rules stay", y.count(3), 3);
        due("the page stays", y.count(4), 1);
        due("what was done is counted on", y.count(7), 1);
        due("the lift", y.lift(2), 6);
        due("once more", y.restore(), 1);
        due("the lift once more", y.lift(1), 6);

        says("It goes on from the IMAGE: how many ROOMS are LATE. STATE: none was kept, or a HOUSE was read since (of the "
                + "same text, too).");
        due("none was kept", with(DOUBT).restore(), STATE);
        due("none was kept, no house", new RoomsByThree().restore(), STATE);
        y.blank();
        Checks.put(y, "zz");
        y.house();
        due("a house that was refused was not read", y.restore(), 1);
        y.blank();
        Checks.put(y, DOUBT);
        y.house();
        y.late(0, 3);
        y.lift(4);
        long before = y.digest();
        due("the same text", y.restore(), STATE);
        due("nothing changed", y.digest(), before);
        due("an image of this one", y.image(), 1);
        y.late(0, NONE);
        due("is restored", y.restore(), 1);
        due("with its room", y.room(0, 6), 3);
        Checks.put(y, EIGHT);
        y.house();
        due("another text", y.restore(), STATE);
        Checks.put(y, DOUBT);
        y.house();
        due("the first text again", y.restore(), STATE);
    }

    interface Six {
        int ask(RoomsByThree x);
    }

    static final Six[] SIX = {x -> x.best(0, 1), x -> x.call(1, 0, 0), x -> x.called(0), x -> x.missed(0, 0),
        x -> x.more(0, 0, 0), x -> x.which(1), x -> x.best(0, 5)};

    static final Six[] REFUSED = {x -> x.best(0, 6), x -> x.call(0, 1, 0), x -> x.call(0, 0, 2), x -> x.called(-1),
        x -> x.missed(1, 0), x -> x.missed(0, 2), x -> x.more(1, 0, 0), x -> x.more(0, 0, 2), x -> x.which(2)};

    static void sixteen() {
        says("and last STATE: these six were done 16 times together ever; it counts on, whatever is read or restored");
        for (int each = 0; each < SIX.length; each++) {
            RoomsByThree x = with(DOUBT, LIST);
            int first = SIX[each].ask(x);
            for (int i = 2; i <= 16; i++) {
                due("the answer stays, " + i + " of " + each, SIX[each].ask(x), first);
                due("count(7)", x.count(7), i);
            }
            for (int other = 0; other < SIX.length; other++) {
                due("17 of " + each + ", then " + other, SIX[other].ask(x), other == 4 ? MORE_STATE : STATE);
            }
            due("count(7)", x.count(7), 16);
        }
        RoomsByThree x = with(DOUBT, LIST);
        x.image();
        for (int i = 0; i < 16; i++) {
            for (Six refused : REFUSED) {
                due("refused", refused.ask(x) < -100 ? 1 : 0, 1);
            }
            due("those refused are not counted", x.count(7), i);
            due("done", SIX[i % 7].ask(x) > -100 ? 1 : 0, 1);
            x.restore();
            if (i % 5 == 4) {
                Checks.put(x, DOUBT);
                x.house();
                x.image();
            }
        }
        due("sixteen", x.count(7), 16);
        int[] due = {OUTSIDE, UNKNOWN, OUTSIDE, OUTSIDE, UNKNOWN, OUTSIDE, -10000001, -10000002, OUTSIDE};
        for (int i = 0; i < REFUSED.length; i++) {
            due("other refusals come ahead of it, " + i, REFUSED[i].ask(x), due[i]);
        }
        Checks.put(x, EIGHT);
        x.house();
        due("another house: count(7)", x.count(7), 16);
        due("another house", x.which(0), STATE);
        due("more than 6 rooms", x.best(0, 0), STATE);
        due("calls of a day go on", x.cost(0, 0, 0), 1);

        says("(those that answered NONE, too, those refused not)");
        RoomsByThree none = with("1a1g0;1f0t44;0a1");
        due("best(0, 1)", none.best(0, 1), NONE);
        due("called(0)", none.called(0), NONE);
        due("which(0)", none.which(0), NONE);
        due("three", none.count(7), 3);
        due("missed without a rule", none.missed(0, 0), UNKNOWN);
        due("more without a rule", none.more(0, 0, 0), -10000001);
        due("call of none by chance", none.call(0, 0, 0), UNKNOWN);
        due("three still", none.count(7), 3);
        for (int i = 3; i < 16; i++) {
            none.which(0);
        }
        due("of no rules, refused all the same", none.which(0), STATE);
        due("of none by chance", none.called(0), STATE);
        due("of no such room", none.best(0, 5), STATE);
    }

    static void counts() {
        says("How many: 0 ROOMS, 1 WOMEN, 2 GUESTS, 3 RULES, 4 letters of THE PAGE, 5 ROOMS BY CHANCE (told so), 6 that are "
                + "LATE, 7 how often the six were done together");
        String most = "1a1g0/1g1,1a1g0/1g1,1a1g0/1g1," + Checks.times(5, "1a1g0", ",") + ";1f0t1,1f0t1,1f0t1;"
                + Checks.times(8, "0a1", ",");
        RoomsByThree x = with(most, 0, 0, 0, 0, 0, 0, 0, 0);
        Checks.put(x, Checks.times(160, "~", ""));
        for (int r = 0; r < 8; r++) {
            x.late(r, 44);
        }
        for (int i = 0; i < 16; i++) {
            x.which(0);
        }
        int[] counts = {8, 3, 8, 8, 160, 3, 8, 16};
        for (int what = 0; what < 8; what++) {
            due("the most: count(" + what + ")", x.count(what), counts[what]);
        }
        for (int what : new int[] {-1, 8, Checks.LEAST, Checks.MOST}) {
            due("count(" + what + ")", x.count(what), OUTSIDE);
        }
        RoomsByThree least = with("1a1g0;1f0t1;0a1");
        int[] one = {1, 1, 1, 0, 0, 0, 0, 0};
        for (int what = 0; what < 8; what++) {
            due("the least: count(" + what + ")", least.count(what), one[what]);
        }
    }

    static long hash(long... numbers) {
        BigInteger h = BigInteger.valueOf(419);
        for (long number : numbers) {
            h = h.multiply(BigInteger.valueOf(31)).add(BigInteger.valueOf(number));
        }
        return h.longValue();
    }

    /** What digest() must answer, by the other calls; kinds and n of the rules, letters of the page are told. */
    static long hashOf(RoomsByThree x, int lift, int[][] rules, String page) {
        List<Long> numbers = new ArrayList<>();
        for (int r = 0; r < x.count(0); r++) {
            for (int what = 0; what < 7; what++) {
                numbers.add((long) x.room(r, what));
            }
        }
        for (int w = 0; w < x.count(1); w++) {
            for (int what = 0; what < 3; what++) {
                numbers.add((long) x.woman(w, what));
            }
        }
        for (int g = 0; g < x.count(2); g++) {
            for (int what = 0; what < 4; what++) {
                numbers.add((long) x.guest(g, what));
            }
        }
        numbers.add((long) lift);
        for (int i = 0; i < rules.length; i++) {
            numbers.add((long) rules[i][0]);
            numbers.add((long) rules[i][1]);
            if (rules[i][0] != BEST && x.count(0) > 0) {
                numbers.add((long) x.cost(i, 0, 0));
                numbers.add((long) x.cost(i, 0, 1));
            }
        }
        for (char letter : page.toCharArray()) {
            numbers.add((long) letter);
        }
        for (int what = 0; what < 8; what++) {
            numbers.add((long) x.count(what));
        }
        return hash(numbers.stream().mapToLong(Long::longValue).toArray());
    }

    static void digest() {
        says("h is 419, then for each of these numbers, in order, 31 times h, and it (as longs, wrapping): of each ROOM "
                + "what room() tells for 0 to 6; of each WOMAN what woman() tells for 0 to 2; of each GUEST what guest() "
                + "tells for 0 to 3; THE LIFT; of each RULE KIND, n (0 of a TOLD), and, not of a BEST, with a HOUSE COST by "
                + "WAY 0 by GIVINGS 0, 1; letters of THE PAGE; what count() tells for 0 to 7.");
        RoomsByThree x = new RoomsByThree();
        int[][] none = {};
        due("a new one", x.digest(), hashOf(x, 2, none, ""));
        x.lift(6);
        due("a lift", x.digest(), hashOf(x, 6, none, ""));
        Checks.put(x, "\u0001~");
        due("letters 1 and 126", x.digest(), hashOf(x, 6, none, "\u0001~"));
        x.blank();
        int[][] rules = {{0, 0}, {1, 0}, {2, 0}, {3, 0}, {4, 0}, {5, 0}, {5, 1}, {6, 0}};
        for (int i = 0; i < 7; i++) {
            x.rule(rules[i][0], rules[i][1]);
        }
        Checks.told(x, "5;0");
        due("rules, no house", x.digest(), hashOf(x, 6, rules, ""));
        String most = "1a1g0/1g1,6d9g40/9g41,3b2g5/5g9,4c3g1,5a1g2,2b2g3,1c4g4,6d5g5;1f0t44,6f5t40,3f2t30;"
                + "0a9,44xh3,10b1,3c2,4d1,5xh9,6a1,7b2";
        Checks.put(x, most);
        due("a house on the page", x.digest(), hashOf(x, 6, rules, most));
        x.house();
        due("the house", x.digest(), hashOf(x, 6, rules, ""));
        x.late(0, 0);
        x.late(7, 44);
        x.which(0);
        x.missed(3, 1);
        String full = Checks.times(160, "~", "");
        Checks.put(x, full);
        due("all of it", x.digest(), hashOf(x, 6, rules, full));
        due("it changes nothing", x.digest(), hashOf(x, 6, rules, full));
        due("letters come in order", Checks.page("ab").digest(), hash(2, 'a', 'b', 0, 0, 0, 0, 2, 0, 0, 0));
        RoomsByThree way = with("1a1g0/1g9;1f0t44;0a1", LIST);
        due("cost by way 0", way.digest(), hash(1, 0, 1, 0, 9, 1, -1, 1, 0, 44, 0, 0, 0, 1, 2, 0, 0, 1, 1, 1, 1, 1, 1, 0,
                1, 0, 0));
        way.late(0, 5);
        due("late: cost by it", way.digest(), hash(1, 0, 1, 0, 9, 1, 5, 1, 0, 44, 0, 0, 0, 1, 2, 0, 0, 6, 6, 1, 1, 1, 1, 0,
                1, 1, 0));
    }

    static void lastCall() {
        says("An object is used for at most 512 calls after it has been made");
        RoomsByThree x = new RoomsByThree();
        int calls = 0;
        for (int i = 0; i < DOUBT.length(); i += 8) {
            x.letters(Checks.word(DOUBT.substring(i)));
            calls++;
        }
        due("house()", x.house(), 2);
        due("rule(5, 0)", x.rule(BEST, 0), 0);
        calls += 2;
        for (; calls < Checks.MOST_CALLS - 1; calls++) {
            x.late(1, calls % 45);
            calls++;
            due("a BEST is found anew", x.mean(0, 1, 1) > 0 ? 1 : 0, 1);
        }
        due("the 512th", x.count(0), 2);
    }
}
