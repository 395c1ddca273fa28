import java.util.Random;

/** The sentences about one day: THE LIFT, who does which room when by each kind of rule, and which key is given. */
public final class DaysTest {
    static final int NONE = Checks.NONE, UNKNOWN = Checks.UNKNOWN, OUTSIDE = Checks.OUTSIDE;
    static final int LIST = 0, FLOORS = 1, FREE = 2, PAID = 3, PROMISE = 4, BEST = 5, TOLD = 6;
    /** How many quarters so many floors (0 to 5) take, by how many the lift goes (1 to 6). */
    static final int[][] RIDES = {{0, 0, 0, 0, 0, 0}, {1, 1, 1, 1, 1, 1}, {2, 1, 1, 1, 1, 1}, {3, 2, 1, 1, 1, 1},
        {4, 2, 2, 1, 1, 1}, {5, 3, 2, 2, 1, 1}};

    public static void main(String[] args) {
        all();
        Checks.wear();
        all();
        Checks.end();
    }

    static void all() {
        quarters();
        numbers();
        facts();
        ways();
        late();
        lift();
        begins();
        ends();
        kinds();
        lists();
        floors();
        free();
        freeWaits();
        paid();
        promise();
        told();
        toldNothing();
        fits();
        waits();
        asTheyCome();
        wise();
        wiseOfMany();
        wiseOfLikeCost();
    }

    static void says(String words) {
        Checks.says(words);
    }

    static void due(String call, long got, long want) {
        Checks.due(call, got, want);
    }

    static RoomsByThree with(String house, int... kinds) {
        return Checks.with(house, kinds);
    }

    /** An object with a rule of every kind: rule i is of kind i; the told one tells the first woman all rooms. */
    static RoomsByThree allKinds(String house) {
        RoomsByThree x = with(house, LIST, FLOORS, FREE, PAID, PROMISE, BEST);
        Checks.told(x, "01234567");
        return x;
    }

    /** When each room is begun by a rule of this kind alone, by a way. */
    static void begun(RoomsByThree x, int rule, int way, int... quarters) {
        for (int r = 0; r < quarters.length; r++) {
            due("done(" + rule + ", " + way + ", " + r + ", 1)", x.done(rule, way, r, 1), quarters[r]);
        }
    }

    static void by(RoomsByThree x, int rule, int way, int... women) {
        for (int r = 0; r < women.length; r++) {
            due("done(" + rule + ", " + way + ", " + r + ", 0)", x.done(rule, way, r, 0), women[r]);
        }
    }

    // ---- 1

    static void quarters() {
        says("Time is told in QUARTERS 0 to 44.");
        RoomsByThree x = allKinds("1a1g0;1f0t44;0a1,44b1");
        for (int quarter = -3; quarter <= 47; quarter++) {
            boolean fine = quarter >= 0 && quarter <= 44;
            int was = x.room(0, 6);
            due("late(0, " + quarter + ")", x.late(0, quarter), fine || quarter == NONE ? was : OUTSIDE);
            if (fine) {
                due("gone(0, 0)", x.gone(0, 0), quarter);
                due("ready by the last quarter", x.done(LIST, 0, 0, 2), quarter < 44 ? quarter + 1 : NONE);
                due("it waits until then", x.given(LIST, 0, 0, 0, 1), quarter < 44 ? quarter + 1 : 44);
            }
            boolean sure = x.sure(LIST, 0, 1, quarter, 0) == 1;
            due("sure of 0 and more for " + quarter, sure ? 1 : 0, fine ? 1 : 0);
        }
    }

    static void numbers() {
        says("All are numbered from 0.");
        RoomsByThree x = with("2a1g3,3b1g4;4f5t9,5f6t10;7c1,8d1");
        due("room 0", x.room(0, 0), 2);
        due("room 1", x.room(1, 0), 3);
        due("room 2", x.room(2, 0), UNKNOWN);
        due("room -1", x.room(-1, 0), UNKNOWN);
        due("woman 0", x.woman(0, 0), 4);
        due("woman 1", x.woman(1, 0), 5);
        due("woman 2", x.woman(2, 0), UNKNOWN);
        due("guest 0", x.guest(0, 0), 7);
        due("guest 1", x.guest(1, 0), 8);
        due("guest 2", x.guest(2, 0), UNKNOWN);
        RoomsByThree none = new RoomsByThree();
        due("no room", none.room(0, 0), UNKNOWN);
        due("no woman", none.woman(0, 0), UNKNOWN);
        due("no guest", none.guest(0, 0), UNKNOWN);
        due("no rule", none.as(0, 0), UNKNOWN);
        RoomsByThree most = with(Checks.times(8, "1a1g0", ",") + ";" + Checks.times(3, "1f0t1", ",") + ";"
                + Checks.times(8, "0a1", ","));
        due("room 7", most.room(7, 0), 1);
        due("room 8", most.room(8, 0), UNKNOWN);
        due("woman 2", most.woman(2, 0), 1);
        due("woman 3", most.woman(3, 0), UNKNOWN);
        due("guest 7", most.guest(7, 3), 1);
        due("guest 8", most.guest(8, 3), UNKNOWN);
    }

    static void facts() {
        RoomsByThree none = new RoomsByThree();
        none.rule(LIST, 0);
        RoomsByThree x = with("1a1g0,6d9g40/9g41,3c5g7/1g8,4b2g9;1f0t1,6f40t44;0a1,44xh9,7dh5,8x2,9b3,3ch4");
        x.late(2, 0);
        x.late(3, 44);

        says("what = 0 FLOOR, 1 SORT (0 to 3), 2 WORK, 3 GONE (the first QUARTER), 4 the later one (NONE), 5 TENTHS (NONE), "
                + "6 at which it is LATE (NONE). UNKNOWN; OUTSIDE.");
        int[][] rooms = {{1, 0, 1, 0, NONE, NONE, NONE}, {6, 3, 9, 40, 41, 9, NONE}, {3, 2, 5, 7, 8, 1, 0},
            {4, 1, 2, 9, NONE, NONE, 44}};
        for (int i = -1; i <= 4; i++) {
            for (int what = -1; what <= 7; what++) {
                boolean named = i >= 0 && i < 4;
                int told = what < 0 || what > 6 ? OUTSIDE : named ? rooms[i][what] : 0;
                due("room(" + i + ", " + what + ")", x.room(i, what), named ? told : UNKNOWN);
            }
        }

        says("Of a WOMAN: what = 0 FLOOR, 1 FROM, 2 TO. UNKNOWN; OUTSIDE.");
        int[][] women = {{1, 0, 1}, {6, 40, 44}};
        for (int i = -1; i <= 2; i++) {
            for (int what = -1; what <= 3; what++) {
                boolean named = i >= 0 && i < 2;
                int told = what < 0 || what > 2 ? OUTSIDE : named ? women[i][what] : 0;
                due("woman(" + i + ", " + what + ")", x.woman(i, what), named ? told : UNKNOWN);
            }
        }

        says("Of a GUEST: what = 0 COMES, 1 SORT (NONE: any), 2 whether HIGH (1, 0), 3 WEIGHT. UNKNOWN; OUTSIDE.");
        int[][] guests = {{0, 0, 0, 1}, {44, NONE, 1, 9}, {7, 3, 1, 5}, {8, NONE, 0, 2}, {9, 1, 0, 3}, {3, 2, 1, 4}};
        for (int i = -1; i <= 6; i++) {
            for (int what = -1; what <= 4; what++) {
                boolean named = i >= 0 && i < 6;
                int told = what < 0 || what > 3 ? OUTSIDE : named ? guests[i][what] : 0;
                due("guest(" + i + ", " + what + ")", x.guest(i, what), named ? told : UNKNOWN);
            }
        }

        says("what is told (UNKNOWN also without a HOUSE).");
        for (int what : new int[] {0, 9, -1}) {
            due("room(0, " + what + ")", none.room(0, what), UNKNOWN);
            due("woman(0, " + what + ")", none.woman(0, what), UNKNOWN);
            due("guest(0, " + what + ")", none.guest(0, what), UNKNOWN);
            due("late(0, " + what + ")", none.late(0, what), UNKNOWN);
        }
        due("THE LIFT needs none", none.lift(3), 2);
    }

    static void ways() {
        says("bit i is 1, if the i-th ROOM BY CHANCE is GONE at the later QUARTER.");
        RoomsByThree x = with("1a1g9,1a1g0/1g10,1a1g8,1a1g1/9g11,1a1g40/5g41,1a1g7;1f0t44;0a1");
        int[][] two = {{0, 10}, {1, 11}, {40, 41}};
        int[] rooms = {1, 3, 4};
        for (int way = 0; way < 8; way++) {
            for (int i = 0; i < 3; i++) {
                due("gone(" + rooms[i] + ", " + way + ")", x.gone(rooms[i], way), two[i][way >> i & 1]);
            }
            due("gone(0, " + way + ")", x.gone(0, way), 9);
            due("gone(2, " + way + ")", x.gone(2, way), 8);
            due("gone(5, " + way + ")", x.gone(5, way), 7);
        }
        says("OUTSIDE: way (0 to 2 to the number of ROOMS BY CHANCE, less 1)");
        for (int chances = 0; chances <= 3; chances++) {
            String rooms4 = Checks.times(chances, "1a1g0/5g3", ",") + (chances > 0 ? "," : "") + "1a1g0";
            RoomsByThree y = with(rooms4 + ";1f0t44;0a1", LIST);
            for (int way = -1; way <= 9; way++) {
                boolean fine = way >= 0 && way < 1 << chances;
                due("gone, way " + way + " of " + chances, y.gone(chances, way), fine ? 0 : OUTSIDE);
                due("cost, way " + way + " of " + chances, y.cost(0, way, 0) == OUTSIDE ? 0 : 1, fine ? 1 : 0);
                due("done, way " + way + " of " + chances, y.done(0, way, 0, 0), fine ? 0 : OUTSIDE);
                due("given, way " + way + " of " + chances, y.given(0, way, 0, 0, 0) == OUTSIDE ? 0 : 1, fine ? 1 : 0);
            }
        }
    }

    static void late() {
        says("LATE: a ROOM is GONE at another QUARTER after all (0 to 44; then it is not BY CHANCE; its bit stays, "
                + "and tells nothing).");
        RoomsByThree x = with("1a1g5/1g10,1a1g8,1a1g1/9g11;1f0t44;0a1", LIST);
        for (int quarter = 0; quarter <= 44; quarter++) {
            x.late(0, quarter);
            due("its bit is 0", x.gone(0, 0), quarter);
            due("its bit is 1", x.gone(0, 1), quarter);
            due("its bit is 0, another is 1", x.gone(0, 2), quarter);
            due("both are 1", x.gone(0, 3), quarter);
        }
        due("the other keeps its bit", x.gone(2, 2), 11);
        due("the other keeps its bit", x.gone(2, 1), 1);
        due("there are as many ways", x.gone(2, 3), 11);
        due("and no more", x.gone(2, 4), OUTSIDE);
        due("told by chance still", x.count(5), 2);
        due("it is not by chance", x.call(0, 0, 0), UNKNOWN);
        due("the other is", x.call(0, 2, 1) > 0 ? 1 : 0, 1);
        x.late(1, 0);
        due("one that was not by chance", x.gone(1, 3), 0);
        due("two are late", x.count(6), 2);
        x.late(0, NONE);
        due("not late any more", x.gone(0, 0), 5);
        due("not late any more", x.gone(0, 1), 10);
        due("one is late", x.count(6), 1);

        says("A ROOM is LATE (a QUARTER 0 to 44; NONE: not): what it was (NONE). UNKNOWN; OUTSIDE.");
        RoomsByThree y = with("1a1g5;1f0t44;0a1");
        int was = NONE;
        for (int quarter : new int[] {NONE, 0, 44, 44, 1, 43, NONE, 0}) {
            due("late(0, " + quarter + ")", y.late(0, quarter), was);
            due("room(0, 6)", y.room(0, 6), quarter);
            due("room(0, 3)", y.room(0, 3), 5);
            due("gone(0, 0)", y.gone(0, 0), quarter == NONE ? 5 : quarter);
            due("count(6)", y.count(6), quarter == NONE ? 0 : 1);
            was = quarter;
        }
        for (int quarter : new int[] {-2, 45, Checks.LEAST, Checks.MOST, UNKNOWN}) {
            due("late(0, " + quarter + ")", y.late(0, quarter), OUTSIDE);
            due("nothing changed", y.room(0, 6), 0);
            due("UNKNOWN ahead of OUTSIDE", y.late(1, quarter), UNKNOWN);
        }
        due("one beyond", y.late(1, 0), UNKNOWN);
        due("one beyond", y.late(-1, 0), UNKNOWN);
        due("without a house", new RoomsByThree().late(0, 0), UNKNOWN);
    }

    static void lift() {
        says("THE LIFT goes so many FLOORS in a QUARTER (1 to 6; 2 at first): from one FLOOR to another it takes as "
                + "many QUARTERS, rounded up.");
        for (int from = 1; from <= 6; from++) {
            for (int to = 1; to <= 6; to++) {
                RoomsByThree x = allKinds(to + "a1g0;" + from + "f0t44;0a1");
                int away = Math.abs(from - to);
                for (int kind = 0; kind < 7; kind++) {
                    due("2 at first, " + from + " to " + to, x.done(kind, 0, 0, 1), RIDES[away][1]);
                }
                for (int floors = 1; floors <= 6; floors++) {
                    x.lift(floors);
                    for (int kind = 0; kind < 7; kind++) {
                        due("by " + floors + ", " + from + " to " + to, x.done(kind, 0, 0, 1), RIDES[away][floors - 1]);
                    }
                }
            }
        }
        says("THE LIFT goes so many FLOORS: how many it did. OUTSIDE: 1 to 6.");
        RoomsByThree x = new RoomsByThree();
        int was = 2;
        for (int floors : new int[] {1, 6, 6, 5, 2, 3, 4}) {
            due("lift(" + floors + ")", x.lift(floors), was);
            was = floors;
        }
        for (int floors : new int[] {0, 7, -1, Checks.LEAST, Checks.MOST}) {
            due("lift(" + floors + ")", x.lift(floors), OUTSIDE);
        }
        due("it goes as before", x.lift(1), 4);
    }

    // ---- 2

    static void begins() {
        says("A WOMAN is on her FLOOR at FROM, free. She begins a ROOM when she is there (from where she is, as she is "
                + "free) and it is GONE; WORK later it is READY, and she is free there.");
        for (int gone = 0; gone <= 12; gone++) {
            RoomsByThree x = allKinds("6a4g" + gone + ";1f5t44;0a1");
            int begins = Math.max(gone, 8);
            for (int kind = 0; kind < 7; kind++) {
                boolean rides = kind >= FREE && kind <= PROMISE;
                int due = rides ? Math.max(gone, 5) + 3 : begins;
                due("begun, kind " + kind + ", gone at " + gone, x.done(kind, 0, 0, 1), due);
                due("ready, kind " + kind + ", gone at " + gone, x.done(kind, 0, 0, 2), due + 4);
                due("by her", x.done(kind, 0, 0, 0), 0);
            }
        }
        RoomsByThree there = allKinds("6a1g0,6a1g0,1a9g0;1f0t44;0a1");
        begun(there, LIST, 0, 3, 4, 8);
        begun(there, FLOORS, 0, 3, 4, 8);
        begun(there, FREE, 0, 12, 13, 0);
        begun(there, PAID, 0, 3, 4, 8);
        begun(there, TOLD, 0, 3, 4, 8);
        RoomsByThree at44 = allKinds("1a4g40;1f40t44;0a1");
        for (int kind = 0; kind < 7; kind++) {
            due("the last quarters", at44.done(kind, 0, 0, 2), 44);
        }
    }

    static void ends() {
        says("She does none that would be READY later than TO.");
        for (int to = 8; to <= 14; to++) {
            RoomsByThree x = allKinds("6a4g0;1f3t" + to + ";0a1");
            for (int kind = 0; kind < 7; kind++) {
                due("6 + 4 by " + to + ", by whom, kind " + kind, x.done(kind, 0, 0, 0), to >= 10 ? 0 : NONE);
                due("6 + 4 by " + to + ", begun, kind " + kind, x.done(kind, 0, 0, 1), to >= 10 ? 6 : NONE);
                due("6 + 4 by " + to + ", ready, kind " + kind, x.done(kind, 0, 0, 2), to >= 10 ? 10 : NONE);
            }
        }
        for (int late = 30; late <= 44; late++) {
            RoomsByThree x = allKinds("1a9g0;1f0t44;0a1");
            x.late(0, late);
            for (int kind = 0; kind < 7; kind++) {
                due("late at " + late + ", kind " + kind, x.done(kind, 0, 0, 2), late <= 35 ? late + 9 : NONE);
            }
        }
        RoomsByThree other = allKinds("1a9g0,1a2g0,1a1g0;1f0t3;0a1");
        for (int kind = 0; kind < 7; kind++) {
            boolean shortFirst = kind == PAID || kind == BEST;
            begun(other, kind, 0, NONE, shortFirst ? 1 : 0, shortFirst ? 0 : 2);
        }
    }

    static void kinds() {
        says("RULES (8 at most, numbered) are of KINDS: 0 LIST, 1 FLOORS, 2 FREE, 3 PAID, 4 PROMISE, 5 BEST, 6 TOLD. "
                + "All are LISTS; a PAID, a PROMISE is a FREE, too.");
        int[][] such = {{1, 0, 0, 0, 0, 0, 0}, {1, 1, 0, 0, 0, 0, 0}, {1, 0, 1, 0, 0, 0, 0}, {1, 0, 1, 1, 0, 0, 0},
            {1, 0, 1, 0, 1, 0, 0}, {1, 0, 0, 0, 0, 1, 0}, {1, 0, 0, 0, 0, 0, 1}};
        for (int turn = 0; turn < 7; turn++) {
            RoomsByThree x = new RoomsByThree();
            for (int i = 0; i < 7; i++) {
                int kind = (i + turn) % 7;
                due("its number", kind == TOLD ? Checks.told(x, "0") : x.rule(kind, 0), i);
            }
            due("an eighth", x.rule(BEST, 1), 7);
            due("a ninth", x.rule(BEST, 1), Checks.FULL);
            due("a ninth that is told", Checks.told(x, "0"), Checks.FULL);
            for (int i = 0; i < 7; i++) {
                for (int kind = 0; kind < 7; kind++) {
                    due("as(" + i + ", " + kind + ")", x.as(i, kind), such[(i + turn) % 7][kind] == 1 ? i : NONE);
                }
            }
            due("the eighth", x.as(7, BEST), 7);
            due("behind all", x.as(8, LIST), UNKNOWN);
        }
        says("A RULE taken as a KIND: its own number (not that of the KIND); NONE: it is none such (the cast fails).");
        RoomsByThree alike = new RoomsByThree();
        for (int i = 0; i < 8; i++) {
            alike.rule(PAID, 0);
            due("of eight alike, as itself", alike.as(i, PAID), i);
            due("of eight alike, as a FREE", alike.as(i, FREE), i);
            due("of eight alike, as a LIST", alike.as(i, LIST), i);
            due("of eight alike, as another", alike.as(i, PROMISE), NONE);
        }
        says("A RULE that is not TOLD: its number. OUTSIDE: kind (0 to 5), n (of a BEST its GIVING, 0 else); FULL.");
        for (int kind = -1; kind <= 7; kind++) {
            for (int n = -1; n <= 2; n++) {
                boolean fine = kind >= 0 && kind <= 5 && (n == 0 || kind == BEST && n == 1);
                RoomsByThree x = new RoomsByThree();
                due("rule(" + kind + ", " + n + ")", x.rule(kind, n), fine ? 0 : OUTSIDE);
                due("count(3)", x.count(3), fine ? 1 : 0);
                due("the next", x.rule(LIST, 0), fine ? 1 : 0);
            }
        }
    }

    static void lists() {
        says("A LIST: ROOMS in their order: each is done by the WOMAN by whom it would be READY first (of like ones the "
                + "least) of those who may.");
        by(with("1a1g0;1f0t44,1f0t44,1f0t44;0a1", LIST), 0, 0, 0);
        by(with("6a1g2;1f0t44,6f0t44;0a1", LIST), 0, 0, 1);
        by(with("6a1g3;1f0t44,6f0t44;0a1", LIST), 0, 0, 0);
        by(with("1a5g0;1f0t5,6f0t44;0a1", LIST), 0, 0, 0);
        by(with("1a5g0;1f0t4,6f0t44;0a1", LIST), 0, 0, 1);
        by(with("1a5g0;1f0t4,6f0t7;0a1", LIST), 0, 0, NONE);
        by(with("1a5g0;1f0t4,6f0t7,1f39t44;0a1", LIST), 0, 0, 2);
        begun(with("1a5g0,1a1g0;1f0t4,6f0t7,1f39t44;0a1", LIST), 0, 0, 39, 0);
        RoomsByThree order = with("1a1g9,1a1g0,1a1g0;1f0t44;0a1", LIST);
        begun(order, 0, 0, 9, 10, 11);
        RoomsByThree two = with("1a1g9,1a1g0,1a1g0;1f0t44,1f0t44;0a1", LIST);
        begun(two, 0, 0, 9, 0, 1);
        by(two, 0, 0, 0, 1, 1);
        RoomsByThree chance = with("1a1g0/5g9,1a1g5;1f0t44;0a1", LIST);
        begun(chance, 0, 0, 0, 5);
        begun(chance, 0, 1, 9, 10);
    }

    static void floors() {
        says("FLOORS: each ROOM is of the WOMAN whose FLOOR (at first) is nearest (of like ones the least);");
        by(with("3a1g0;2f0t44,4f0t44;0a1", FLOORS), 0, 0, 0);
        by(with("3a1g0;2f0t44,3f0t44;0a1", FLOORS), 0, 0, 1);
        by(with("3a1g0;1f0t44,4f0t44,2f0t44;0a1", FLOORS), 0, 0, 1);
        by(with("3a1g0;6f0t44,1f0t44,5f0t44;0a1", FLOORS), 0, 0, 1);
        by(with("3a1g0,3a1g0,3a1g0,6a1g0;3f0t44,6f0t44;0a1", FLOORS), 0, 0, 0, 0, 0, 1);
        by(with("1a5g0;1f0t4,6f0t44;0a1", FLOORS), 0, 0, NONE);
        by(with("1a1g0,6a1g0,1a1g0;1f0t44,4f0t44;0a1", FLOORS), 0, 0, 0, 1, 0);

        says("each does hers in the order in which they are GONE (of like ones the least), those that she may.");
        begun(with("1a1g3,1a1g2,1a1g3,1a1g0;1f0t44;0a1", FLOORS), 0, 0, 3, 2, 4, 0);
        begun(with("1a1g0,1a1g0,1a1g0;1f5t44;0a1", FLOORS), 0, 0, 5, 6, 7);
        RoomsByThree chance = with("1a1g0/5g9,1a1g5;1f0t44;0a1", FLOORS);
        begun(chance, 0, 0, 0, 5);
        begun(chance, 0, 1, 9, 5);
        chance.late(0, 5);
        begun(chance, 0, 1, 5, 6);
        chance.late(0, 6);
        begun(chance, 0, 0, 6, 5);
        begun(with("1a9g0,1a4g0,1a1g0;1f0t4;0a1", FLOORS), 0, 0, NONE, 0, NONE);
        begun(with("1a9g0,1a3g0,1a1g0;1f0t4;0a1", FLOORS), 0, 0, NONE, 0, 3);
    }

    static void free() {
        says("A FREE: of the WOMEN who have not ended the one who is free first (of like ones the least) chooses, then: of "
                + "ROOMS not begun that are GONE by then, and that she may, the one whose FLOOR is nearest to her, of "
                + "like ones the least;");
        by(with("1a1g0,1a1g0;1f5t44,1f0t44;0a1", FREE), 0, 0, 1, 1);
        by(with("1a9g0,1a1g0;1f1t44,1f0t44;0a1", FREE), 0, 0, 1, 0);
        by(with("1a1g0,1a1g0,1a1g0;1f0t44,1f0t44;0a1", FREE), 0, 0, 0, 1, 0);
        by(with("1a1g0,1a1g0,1a1g0;1f0t44,1f0t44,1f0t44;0a1", FREE), 0, 0, 0, 1, 2);
        by(with("1a5g0;1f0t4,1f9t44;0a1", FREE), 0, 0, 1);
        begun(with("1a1g5,1a1g0;1f5t44;0a1", FREE), 0, 0, 5, 6);
        begun(with("1a1g6,1a1g0;1f5t44;0a1", FREE), 0, 0, 6, 5);
        begun(with("3a1g0,1a1g0,2a1g0;2f0t44;0a1", FREE), 0, 0, 2, 4, 0);
        begun(with("3a1g0,1a1g0;2f0t44;0a1", FREE), 0, 0, 1, 3);
        begun(with("4a1g0,1a1g0;2f0t44;0a1", FREE), 0, 0, 4, 1);
        RoomsByThree quick = with("4a1g0,5a1g0,2a1g0;1f0t44;0a1", FREE);
        quick.lift(6);
        begun(quick, 0, 0, 3, 5, 1);
        begun(with("1a9g0,6a1g0;1f0t5;0a1", FREE), 0, 0, NONE, 3);
        begun(with("1a1g0,6a1g0;1f0t4;0a1", FREE), 0, 0, 0, NONE);
    }

    static void freeWaits() {
        says("if there is none she is free (where she is) at the next QUARTER at which a ROOM not begun is GONE; if there "
                + "is none such she has ended.");
        begun(with("6a1g7,1a1g9;1f0t44;0a1", FREE), 0, 0, 10, 14);
        begun(with("6a1g7,1a1g7;1f0t44;0a1", FREE), 0, 0, 11, 7);
        begun(with("1a9g0,1a1g5;1f0t8;0a1", FREE), 0, 0, NONE, 5);
        begun(with("1a9g0,1a9g5,1a1g6;1f0t8;0a1", FREE), 0, 0, NONE, NONE, 6);
        begun(with("1a1g40,1a1g1;1f0t44;0a1", FREE), 0, 0, 40, 1);
        RoomsByThree last = with("1a1g0,1a1g1;1f0t44;0a1", FREE);
        last.late(0, 43);
        begun(last, 0, 0, 43, 1);
        last.late(0, 44);
        begun(last, 0, 0, NONE, 1);
        // The first one may not do room 1, which is gone at 4: she waits for the next, at 5; the second does it.
        RoomsByThree two = with("1a4g0,1a3g4,1a1g5;1f0t6,1f0t44;0a1", FREE);
        by(two, 0, 0, 0, 1, 0);
        begun(two, 0, 0, 0, 4, 5);
        // What another has chosen is begun: she waits for what is left.
        RoomsByThree left = with("6a1g2,1a1g4;1f0t44,2f0t44;0a1", FREE);
        by(left, 0, 0, 0, 1);
        begun(left, 0, 0, 5, 5);
        RoomsByThree after = with("1a1g0,1a1g3,1a1g6;1f0t1,1f0t44;0a1", FREE);
        by(after, 0, 0, 0, 1, 1);
        begun(after, 0, 0, 0, 3, 6);
    }

    static void paid() {
        says("A PAID: likewise, but of least WORK, of like ones the nearest, then the least;");
        begun(with("1a2g0,6a1g0;1f0t44;0a1", PAID), 0, 0, 7, 3);
        begun(with("6a2g0,1a2g0;1f0t44;0a1", PAID), 0, 0, 5, 0);
        begun(with("1a2g0,1a2g0;1f0t44;0a1", PAID), 0, 0, 0, 2);
        begun(with("3a2g0,1a2g0;2f0t44;0a1", PAID), 0, 0, 1, 4);
        begun(with("1a9g0,6a8g0;1f0t44;0a1", PAID), 0, 0, 14, 3);
        begun(with("1a2g0,1a1g1;1f0t44;0a1", PAID), 0, 0, 0, 2);
        begun(with("1a2g1,1a1g1;1f0t44;0a1", PAID), 0, 0, 2, 1);
        begun(with("6a1g0,1a3g0;1f0t3;0a1", PAID), 0, 0, NONE, 0);
        by(with("1a2g0,1a1g0;1f0t44,1f0t44;0a1", PAID), 0, 0, 1, 0);
    }

    static void promise() {
        says("a PROMISE: of the ROOM whose first GUEST comes first (least COMES of GUESTS whom it FITS; 99, if there is "
                + "none), then the nearest, then the least.");
        begun(with("1a1g0,1b1g0;1f0t44;5a1,4b1", PROMISE), 0, 0, 1, 0);
        begun(with("1a1g0,1b1g0;1f0t44;4a1,4b1", PROMISE), 0, 0, 0, 1);
        begun(with("1a1g0,6b1g0;1f0t44;9a1,7b1,8x1", PROMISE), 0, 0, 7, 3);
        begun(with("1a1g0,1b1g0;1f0t44;44b1", PROMISE), 0, 0, 1, 0);
        begun(with("1a1g0,1b1g0;1f0t44;0b1", PROMISE), 0, 0, 1, 0);
        begun(with("1c1g0,1d1g0;1f0t44;0a1", PROMISE), 0, 0, 0, 1);
        begun(with("6c1g0,1d1g0;1f0t44;0a1", PROMISE), 0, 0, 4, 0);
        begun(with("6a1g0,1a1g0;1f0t44;0a1", PROMISE), 0, 0, 4, 0);
        begun(with("3a1g0,4a1g0;3f0t44;5a1,4xh1", PROMISE), 0, 0, 3, 1);
        begun(with("3a1g0,4a1g0;3f0t44;5a1,4x1", PROMISE), 0, 0, 0, 2);
        begun(with("1a1g0,6b1g0;1f0t44;1b1,0b1,44a1,2a1", PROMISE), 0, 0, 7, 3);
    }

    static void told() {
        says("ROOMS that she does in this order, those that are there and that she may (WOMEN that are not: nothing).");
        RoomsByThree x = with("1a1g0,1a1g0,1a9g0;1f0t5,1f2t44;0a1");
        Checks.told(x, "10");
        begun(x, 0, 0, 1, 0, NONE);
        Checks.told(x, ";10;2");
        begun(x, 1, 0, 3, 2, NONE);
        Checks.told(x, "1;0");
        begun(x, 2, 0, 2, 0, NONE);
        Checks.told(x, ";;012");
        begun(x, 3, 0, NONE, NONE, NONE);
        Checks.told(x, "76543210");
        begun(x, 4, 0, 1, 0, NONE);
        Checks.told(x, "3;74");
        begun(x, 5, 0, NONE, NONE, NONE);
        Checks.told(x, "201;");
        begun(x, 6, 0, 0, 1, NONE);
        Checks.told(x, "0;21");
        by(x, 7, 0, 0, 1, 1);
        begun(x, 7, 0, 0, 11, 2);
        RoomsByThree eight = with(Checks.times(8, "1a1g0", ",") + ";1f0t44,1f0t44,1f0t44;0a1");
        Checks.told(eight, "76;543;210");
        begun(eight, 0, 0, 2, 1, 0, 2, 1, 0, 1, 0);
        by(eight, 0, 0, 2, 2, 2, 1, 1, 1, 0, 0);
        Checks.put(eight, "1a1g0;1f0t44;0a1");
        eight.house();
        begun(eight, 0, 0, NONE);
        RoomsByThree ahead = new RoomsByThree();
        due("told ahead of a house", Checks.told(ahead, ";0"), 0);
        Checks.put(ahead, "1a1g0;1f0t44,1f3t44;0a1");
        ahead.house();
        begun(ahead, 0, 0, 3);
    }

    static void toldNothing() {
        says("for each WOMAN (1 to 3) with \";\" between digits 0 to 7 (perhaps none; each at most once in all)");
        for (String text : new String[] {";", ";;"}) {
            RoomsByThree x = with("1a1g0,1a1g0;1f0t44,1f0t44,1f0t44;0a1");
            due("the first is of no room", Checks.told(x, text), 0);
            due("one of rooms", Checks.told(x, "0;1"), 1);
            due("of no room behind it", Checks.told(x, text), 2);
            due("of one room behind it", Checks.told(x, ";1"), 3);
            begun(x, 0, 0, NONE, NONE);
            begun(x, 1, 0, 0, 0);
            begun(x, 2, 0, NONE, NONE);
            begun(x, 3, 0, NONE, 0);
            by(x, 3, 0, NONE, 1);
            due("none is given", x.given(0, 0, 0, 0, 0), NONE);
        }
    }

    // ---- 3

    static void fits() {
        says("A ROOM FITS a GUEST by SORT, and HIGH.");
        for (char sort : "abcd".toCharArray()) {
            for (int floor = 1; floor <= 6; floor++) {
                for (char wish : "abcdx".toCharArray()) {
                    RoomsByThree plain = with(floor + "" + sort + "1g0;1f0t44;0" + wish + "1", LIST);
                    boolean sortFits = wish == sort || wish == 'x';
                    RoomsByThree high = with(floor + "" + sort + "1g0;1f0t44;0" + wish + "h1", LIST);
                    for (int giving = 0; giving < 2; giving++) {
                        due(floor + "" + sort + " for " + wish, plain.given(0, 0, giving, 0, 0), sortFits ? 0 : NONE);
                        due(floor + "" + sort + " for " + wish + "h", high.given(0, 0, giving, 0, 0),
                                sortFits && floor >= 4 ? 0 : NONE);
                    }
                }
            }
        }
    }

    static void waits() {
        says("If a GUEST is given a ROOM, it WAITS from COMES until that is READY (0, if it is READY ahead), without one "
                + "from COMES until 44; COST is that times WEIGHT.");
        for (int comes = 0; comes <= 44; comes++) {
            int weight = comes % 9 + 1;
            RoomsByThree x = with("1a4g6;1f0t44;" + comes + "a" + weight + "," + comes + "b" + weight, LIST);
            for (int giving = 0; giving < 2; giving++) {
                int waits = comes < 10 ? 10 - comes : 0;
                due("comes at " + comes, x.given(0, 0, giving, 0, 1), waits);
                due("comes at " + comes + ", cost", x.given(0, 0, giving, 0, 2), waits * weight);
                due("comes at " + comes + " for none", x.given(0, 0, giving, 1, 1), 44 - comes);
                due("comes at " + comes + " for none, cost", x.given(0, 0, giving, 1, 2), (44 - comes) * weight);
                due("of all together", x.cost(0, 0, giving), (waits + 44 - comes) * weight);
                due("a room though it costs nothing", x.given(0, 0, giving, 0, 0), 0);
            }
        }
        RoomsByThree last = with("1a4g40;1f40t44;0a9,43a9,44a9", LIST);
        due("ready at 44", last.given(0, 0, 0, 0, 1), 44);
        due("it is given it", last.given(0, 0, 0, 0, 0), 0);
        due("without one", last.given(0, 0, 0, 1, 2), 9);
        due("who comes at 44", last.given(0, 0, 0, 2, 2), 0);

        says("COST of all together.");
        for (int giving = 0; giving < 2; giving++) {
            RoomsByThree each = allKinds("1a2g0/5g9,4b1g3,6a3g1/5g7;1f0t20,5f2t44;0a9,3xh2,5b3,6a1,44c9,2d4");
            for (int kind = 0; kind < 7; kind++) {
                for (int way = 0; way < 4; way++) {
                    int sum = 0;
                    for (int g = 0; g < 6; g++) {
                        sum += each.given(kind, way, giving, g, 2);
                    }
                    due("kind " + kind + " by way " + way + " and giving " + giving, each.cost(kind, way, giving), sum);
                }
            }
        }
        RoomsByThree most = with("1d1g0;1f0t44;" + Checks.times(8, "0a9", ","), LIST);
        due("the most that all can cost", most.cost(0, 0, 0), 8 * 44 * 9);
        due("wisely", most.cost(0, 0, 1), 8 * 44 * 9);
    }

    static void keys(String house, int giving, int... rooms) {
        RoomsByThree x = with(house, LIST);
        for (int g = 0; g < rooms.length; g++) {
            due("'" + house + "' by " + giving + ", guest " + g, x.given(0, 0, giving, g, 0), rooms[g]);
        }
    }

    static void asTheyCome() {
        says("0 AS THEY COME: in the order of COMES (of like ones the least) each is given of ROOMS that FIT, will be READY, "
                + "and are not given yet the one for which it WAITS least, of like ones the least; none, if there is none.");
        keys("1a1g0;1f0t44;1a1,0a1", 0, NONE, 0);
        keys("1a1g0;1f0t44;1a1,1a9", 0, 0, NONE);
        keys("1a1g0;1f0t44;44a1,43a1,43a1", 0, NONE, 0, NONE);
        keys("1a5g0,1a1g0;1f0t44,1f0t44;0a1,0a9", 0, 1, 0);
        keys("1a5g0,1a1g0;1f0t44,1f0t44;4a1", 0, 1);
        keys("1a5g0,1a1g0;1f0t44,1f0t44;5a1", 0, 0);
        keys("1a5g0,1a1g0;1f0t44,1f0t44;44a1", 0, 0);
        keys("1a1g0,1a1g0;1f0t44,1f0t44;0a1,0a1,0a1", 0, 0, 1, NONE);
        keys("1a1g0,1b1g0;1f0t44;0x1,1a1,1b1", 0, 0, NONE, 1);
        keys("1a9g0,1a1g0;1f0t5;0a1,0a1", 0, 1, NONE);
        keys("1b1g0;1f0t44;0a1", 0, NONE);
        keys("3a1g0,4a1g0;1f0t44;0ah1,1a1,2ah1", 0, 1, 0, NONE);
        keys(Checks.times(8, "1a1g0", ",") + ";1f0t44;7a1,6a1,5a1,4a1,3a1,2a1,1a1,0a1", 0, 7, 6, 5, 4, 3, 2, 1, 0);
    }

    static void wise() {
        says("1 WISE: of all ways to give by which COST of all together is least the one by which GUEST 0 is given the "
                + "least ROOM (none behind all), then GUEST 1, and so on.");
        keys("1a1g0;1f0t44;0a1,1a9", 1, NONE, 0);
        keys("1a1g0;1f0t44;0a1,0a1", 1, 0, NONE);
        keys("1a1g0;1f0t44;44a1,44a9", 1, 0, NONE);
        keys("1a1g0,1a1g0;1f0t44;44a1,44a9", 1, 0, 1);
        keys("1a5g0,1a1g0;1f0t44,1f0t44;0a1,0a1", 1, 0, 1);
        keys("1a5g0,1a1g0;1f0t44,1f0t44;0a2,0a1", 1, 1, 0);
        keys("1a5g0,1a1g0;1f0t44,1f0t44;5a2,0a1", 1, 0, 1);
        keys("1a9g0,1a1g0;1f0t5;44a1,44a1", 1, 1, NONE);
        keys("1b1g0,1a1g0;1f0t44,1f0t44;0x1,0b1", 1, 1, 0);
        keys("1b1g0,1a1g0;1f0t44,1f0t44;44x1,44b1", 1, 0, NONE);
        keys("1b1g0,1a1g0;1f0t44,1f0t44;44x1,43b1", 1, 1, 0);
        keys("4a1g0,3a1g0;3f0t44;44x1,44xh1,44x1", 1, 0, NONE, 1);
        keys("4a1g0,3a1g0;4f0t44,3f0t44;0x1,0xh1,44x1", 1, 1, 0, NONE);
        keys(Checks.times(8, "1a1g0", ",") + ";1f0t44;" + Checks.times(8, "8a9", ","), 1, 0, 1, 2, 3, 4, 5, 6, 7);
        keys(Checks.times(8, "1a1g0", ",") + ";1f0t44;" + Checks.times(8, "0a9", ","), 1, 0, 1, 2, 3, 4, 5, 6, 7);
        keys("1a1g0;1f0t44;" + Checks.times(8, "0a9", ","), 1, 0, NONE, NONE, NONE, NONE, NONE, NONE, NONE);
        keys("1a1g0;1f0t44;1a9,1a9,1a9,1a9,1a9,1a9,1a9,0a9", 1, 0, NONE, NONE, NONE, NONE, NONE, NONE, NONE);
        keys("1a1g0;1f0t44;2a9,2a9,2a9,2a9,2a9,2a9,2a9,1a9", 1, NONE, NONE, NONE, NONE, NONE, NONE, NONE, 0);
        keys(Checks.times(8, "1a1g0", ",") + ";1f0t44;44a1", 1, 0);
        keys(Checks.times(8, "1a1g0", ",") + ";1f0t44;7a1", 1, 0);
        keys(Checks.times(7, "1b1g0", ",") + ",1a1g0;1f0t44;0a1,0x1", 1, 7, 0);
    }

    static void wiseOfMany() {
        says("GUEST 0 is given the least ROOM (none behind all), then GUEST 1, and so on.");
        for (int comes = 40; comes <= 44; comes++) {
            keys(Checks.times(8, "1a1g0", ",") + ";1f0t44;" + Checks.times(8, comes + "a9", ","), 1,
                    0, 1, 2, 3, 4, 5, 6, 7);
        }
        for (int first = 0; first < 7; first++) {
            for (int next = first + 1; next < 8; next++) {
                StringBuilder guests = new StringBuilder();
                int[] rooms = new int[8];
                for (int g = 0; g < 8; g++) {
                    guests.append(g == 0 ? "" : ",").append(g == first ? "44x1" : g == next ? "44a1" : "44c1");
                    rooms[g] = g == first ? 0 : NONE;
                }
                keys("1a1g0,1b1g0;1f0t44;" + guests, 1, rooms);
                rooms[next] = 0;
                rooms[first] = 1;
                keys("1a1g0,1b1g0;1f0t44;" + guests.toString().replace("44a1", "43a1"), 1, rooms);
                rooms[first] = 0;
                rooms[next] = 1;
                keys("1a1g0,1b1g0;1f0t44;" + guests.toString().replace("44a1", "43b1"), 1, rooms);
            }
        }
        keys("1a1g0,1b1g0,1c1g0;1f0t44;44x1,44a1,44b1,44c1", 1, 0, NONE, 1, 2);
        keys("1a1g0,1b1g0,1c1g0;1f0t44;44x1,44x1,44a1,44b1", 1, 0, 1, NONE, NONE);
        keys("1c1g0,1b1g0,1a1g0;1f0t44;44a1,44x1,44x1,44c1", 1, 2, 0, 1, NONE);
    }

    /** Who comes at 44 costs nothing: then each is given the least room that fits and is left, in the guests' order. */
    static void wiseOfLikeCost() {
        says("GUEST 0 is given the least ROOM (none behind all), then GUEST 1, and so on.");
        Random draws = new Random(7);
        for (int i = 0; i < 300; i++) {
            int[] floor = new int[8];
            int[] sort = new int[8];
            StringBuilder house = new StringBuilder();
            for (int r = 0; r < 8; r++) {
                floor[r] = 3 + draws.nextInt(2);
                sort[r] = draws.nextInt(3);
                house.append(r == 0 ? "" : ",").append(floor[r]).append("abcd".charAt(sort[r])).append("1g0");
            }
            house.append(";3f0t44;");
            int[] rooms = new int[8];
            int taken = 0;
            for (int g = 0; g < 8; g++) {
                int wish = draws.nextInt(5);
                boolean high = draws.nextInt(3) == 0;
                house.append(g == 0 ? "" : ",").append("44").append("abcdx".charAt(wish)).append(high ? "h9" : "1");
                rooms[g] = NONE;
                for (int r = 7; r >= 0; r--) {
                    boolean fits = (wish == 4 || wish == sort[r]) && (!high || floor[r] >= 4);
                    rooms[g] = fits && (taken >> r & 1) == 0 ? r : rooms[g];
                }
                taken |= rooms[g] == NONE ? 0 : 1 << rooms[g];
            }
            keys(house.toString(), 1, rooms);
        }
    }
}
