/** Each promise of the document by its number: ordinary inputs, the edges that are named, and wrong inputs. */
public final class PromisesTest {
    static final int NONE = -1, UNKNOWN = -101, OUTSIDE = -102, STATE = -103, FULL = -104;
    static final int LEAST = Integer.MIN_VALUE, MOST = Integer.MAX_VALUE;

    /** Two rooms, one by chance; two women; a guest who wishes it high, one for the room by chance. */
    static final String PAIR = "4b3g2,1a2g0/3g5;2f1t20,5f0t44;3xh2,0a9";
    /** Three rooms, one woman: each rule of a kind goes another way. */
    static final String TRIO = "1a5g0,4b3g0,6c1g0;3f0t44;9c1,20a1,30b1";
    /** Which room is best first depends on when room 0 is left. */
    static final String DOUBT = "1a5g0/5g20,1b5g0;1f0t44;0a9,0b1";
    static final String EIGHT = "1a9g0,1a9g0,1a9g0,1a9g0,1a9g0,1a9g0,1a9g0,1a9g0;1f0t44;0a1";

    static int wrong = 0;
    static int checks = 0;
    static int promise = 0;

    static void due(String call, long got, long want) {
        checks++;
        if (got != want) {
            wrong++;
            System.out.println("promise " + promise + ": " + call + " answered " + got + ", due is " + want);
        }
    }

    static void put(RoomsByThree x, String text) {
        for (int i = 0; i < text.length(); i += 8) {
            x.letters(word(text.substring(i, Math.min(text.length(), i + 8))));
        }
    }

    static long word(String text) {
        long w = 0;
        for (int i = text.length() - 1; i >= 0; i--) {
            w = w << 8 | text.charAt(i);
        }
        return w;
    }

    static RoomsByThree with(String house, int... kinds) {
        RoomsByThree x = new RoomsByThree();
        put(x, house);
        x.house();
        for (int kind : kinds) {
            x.rule(kind, 0);
        }
        return x;
    }

    static int told(RoomsByThree x, String text) {
        put(x, text);
        return x.tell();
    }

    static int fault(String text, int sort) {
        RoomsByThree x = new RoomsByThree();
        put(x, text);
        return x.fault(sort);
    }

    public static void main(String[] args) {
        texts();
        faults();
        rules();
        facts();
        days();
        kinds();
        keys();
        chances();
        orders();
        theSix();
        images();
        sixteen();
        all();
        System.out.println(checks + " checks, " + wrong + " wrong");
        if (wrong != 0) {
            System.exit(1);
        }
    }

    static void texts() {
        promise = 1;
        RoomsByThree x = new RoomsByThree();
        for (int what = 0; what < 8; what++) {
            due("count of a new one", x.count(what), 0);
        }
        due("new: house()", x.house(), STATE);
        due("new: tell()", x.tell(), STATE);
        due("new: image()", x.image(), STATE);
        due("new: restore()", x.restore(), STATE);
        due("new: lift(1)", x.lift(1), 2);

        promise = 2;
        x = new RoomsByThree();
        due("letters(0)", x.letters(0), 0);
        due("letters(a)", x.letters('a'), 1);
        due("letters of 8", x.letters(word("12345678")), 9);
        due("byte 126", x.letters(126), 10);
        due("byte 1", x.letters(1), 11);
        due("byte 127", x.letters(127), OUTSIDE);
        due("byte 128", x.letters(128), OUTSIDE);
        due("byte 255 at the top", x.letters(-1L), OUTSIDE);
        due("byte 127 at the top", x.letters(127L << 56), OUTSIDE);
        due("one behind a 0", x.letters(65L << 8), OUTSIDE);
        due("one behind a 0, at the top", x.letters(65L << 56 | 65L), OUTSIDE);
        due("nothing came", x.count(4), 11);
        for (int i = 0; i < 18; i++) {
            x.letters(word("abcdefgh"));
        }
        due("155 letters", x.count(4), 155);
        due("6 more", x.letters(word("abcdef")), FULL);
        due("OUTSIDE ahead of FULL", x.letters(word("abcdefg") | 200L << 56), OUTSIDE);
        due("5 more", x.letters(word("abcde")), 160);
        due("one more", x.letters('a'), FULL);
        due("none more", x.letters(0), 160);

        promise = 3;
        due("blank()", x.blank(), 160);
        due("blank() again", x.blank(), 0);
        due("count(4)", x.count(4), 0);
    }

    static void faults() {
        promise = 4;
        due("fault(2)", new RoomsByThree().fault(2), OUTSIDE);
        due("fault(-1)", new RoomsByThree().fault(-1), OUTSIDE);
        String[] whole = {PAIR, TRIO, DOUBT, EIGHT, "6d9g40/9g41;6f40t44;44xh9", "1a1g0;1f0t1;0a1",
            "1a1g0/1g1,1a1g0/1g1,1a1g0/1g1;1f0t1,1f0t1,1f0t1;0a1,0a1,0a1,0a1,0a1,0a1,0a1,0a1"};
        for (String text : whole) {
            for (int cut = 0; cut <= text.length(); cut++) {
                due("fault of '" + text.substring(0, cut) + "'", fault(text.substring(0, cut), 0), cut);
            }
        }
        Object[][] faults = {{"0", 0}, {"7", 0}, {"a", 0}, {"1e", 1}, {"1x", 1}, {"1A", 1}, {"1a0", 2}, {"1ag", 2},
            {"1a1h", 3}, {"1a10", 3}, {"1a1g41", 5}, {"1a1g05", 5}, {"1a1g400", 6}, {"1a1g5 ", 5}, {"1a1g,", 4},
            {"1a1g5;1", 7}, {"1a1g5,;", 6}, {"1a1g5;;", 6}, {"1a1g5/0", 6}, {"1a1g5/10", 7}, {"1a1g5/1f", 7},
            {"1a1g5/1g5,", 8}, {"1a1g5/1g4;", 9}, {"1a1g5/1g0", 8}, {"1a1g5/1g42", 9}, {"1a1g20/1g1", 9},
            {"1a1g20/1g20", 10}, {"1a1g20/1g2,", 10}, {"1a1g40/1g40", 10}, {"1a1g40/1g3", 9}, {"1a1g5/1g6/", 9},
            {"1a1g0/1g1,1a1g0/1g1,1a1g0/1g1,1a1g0/", 35},
            {EIGHT.substring(0, 47) + ",", 47}, {"1a1g0;0", 6}, {"1a1g0;7", 6}, {"1a1g0;1t", 7}, {"1a1g0;1f41", 9},
            {"1a1g0;1f01", 9}, {"1a1g0;1f0t0", 10}, {"1a1g0;1f5t5;", 10}, {"1a1g0;1f5t45", 11}, {"1a1g0;1f5f", 9},
            {"1a1g0;1f40t40", 12}, {"1a1g0;1f40t5", 11}, {"1a1g0;1f0t1,1f0t1,1f0t1,", 23}, {"1a1g0;1f0t1;45", 13},
            {"1a1g0;1f0t1;00", 13}, {"1a1g0;1f0t1;0e", 13}, {"1a1g0;1f0t1;0xx", 14}, {"1a1g0;1f0t1;0xhh", 15},
            {"1a1g0;1f0t1;0a0", 14}, {"1a1g0;1f0t1;0a10", 15}, {"1a1g0;1f0t1;0a1;", 15},
            {"1a1g0;1f0t1;0a1,0a1,0a1,0a1,0a1,0a1,0a1,0a1,", 43}};
        for (Object[] row : faults) {
            due("fault of '" + row[0] + "'", fault((String) row[0], 0), (Integer) row[1]);
            RoomsByThree x = new RoomsByThree();
            put(x, (String) row[0]);
            due("house() of '" + row[0] + "'", x.house(), STATE);
        }
        Object[][] toldFaults = {{"", 0}, {"0", 1}, {"01234567", 8}, {";;", 2}, {";;;", 2}, {"7;0;12", 6}, {"8", 0},
            {"0;0", 2}, {"00", 1}, {"1,2", 1}, {"1;2;3;", 5}, {"a", 0}};
        for (Object[] row : toldFaults) {
            due("fault(1) of '" + row[0] + "'", fault((String) row[0], 1), (Integer) row[1]);
        }

        promise = 5;
        RoomsByThree x = new RoomsByThree();
        due("house() of an empty page", x.house(), STATE);
        put(x, "1a1g0;1f0t1");
        due("house() of half a one", x.house(), STATE);
        due("the page stays", x.count(4), 11);
        put(x, ";0a1");
        due("house()", x.house(), 1);
        due("the page is empty", x.count(4), 0);
        x.rule(0, 0);
        x.lift(5);
        x.late(0, 7);
        put(x, "1a1g0;1f0t1;0a1z");
        due("house() with a letter behind", x.house(), STATE);
        due("it is late still", x.room(0, 6), 7);
        x.blank();
        put(x, EIGHT);
        due("house() of eight", x.house(), 8);
        due("none is late", x.count(6), 0);
        due("rules stay", x.count(3), 1);
        due("the lift stays", x.lift(2), 5);
    }

    static void rules() {
        promise = 6;
        RoomsByThree x = new RoomsByThree();
        due("tell() of an empty page", x.tell(), STATE);
        due("tell()", told(x, "10;2"), 0);
        due("the page is empty", x.count(4), 0);
        due("tell() of nobody's", told(x, ";"), 1);
        due("tell() of a fault", told(x, "8"), STATE);
        due("the page stays", x.count(4), 1);
        x.blank();
        for (int i = 2; i < 8; i++) {
            due("tell()", told(x, ";;0"), i);
        }
        due("a ninth", told(x, "0"), FULL);
        due("the page stays", x.count(4), 1);
        put(x, "0");
        due("STATE ahead of FULL", x.tell(), STATE);
        due("eight rules", x.count(3), 8);

        promise = 7;
        x = new RoomsByThree();
        int[][] bad = {{-1, 0}, {6, 0}, {7, 0}, {0, 1}, {4, 1}, {4, -1}, {5, 2}, {5, -1}, {LEAST, 0}, {MOST, 0}};
        for (int[] row : bad) {
            due("rule(" + row[0] + ", " + row[1] + ")", x.rule(row[0], row[1]), OUTSIDE);
        }
        for (int kind = 0; kind < 6; kind++) {
            due("rule(" + kind + ", 0)", x.rule(kind, 0), kind);
        }
        due("rule(5, 1)", x.rule(5, 1), 6);
        due("tell()", told(x, "0"), 7);
        due("rule(0, 0) too many", x.rule(0, 0), FULL);
        due("OUTSIDE ahead of FULL", x.rule(0, 1), OUTSIDE);

        promise = 8;
        x = new RoomsByThree();
        due("as(0, 0)", x.as(0, 0), UNKNOWN);
        due("UNKNOWN ahead of OUTSIDE", x.as(0, 9), UNKNOWN);
        int[] kinds = {5, 4, 3, 2, 1, 0, 5};
        for (int kind : kinds) {
            x.rule(kind, 0);
        }
        told(x, "0");
        for (int rule = 0; rule < 8; rule++) {
            int own = rule < 7 ? kinds[rule] : 6;
            for (int kind = 0; kind < 7; kind++) {
                boolean such = kind == 0 || kind == own || kind == 2 && (own == 3 || own == 4);
                due("as(" + rule + ", " + kind + ")", x.as(rule, kind), such ? rule : NONE);
            }
            due("as(.., -1)", x.as(rule, -1), OUTSIDE);
            due("as(.., 7)", x.as(rule, 7), OUTSIDE);
        }
        due("as(8, 0)", x.as(8, 0), UNKNOWN);
        due("as(-1, 0)", x.as(-1, 0), UNKNOWN);
    }

    static void facts() {
        RoomsByThree none = new RoomsByThree();
        RoomsByThree x = with(PAIR);
        promise = 9;
        int[][] rooms = {{4, 1, 3, 2, NONE, NONE, NONE}, {1, 0, 2, 0, 5, 3, NONE}};
        for (int r = 0; r < 2; r++) {
            for (int what = 0; what < 7; what++) {
                due("room(" + r + ", " + what + ")", x.room(r, what), rooms[r][what]);
            }
        }
        due("room(0, 7)", x.room(0, 7), OUTSIDE);
        due("room(0, -1)", x.room(0, -1), OUTSIDE);
        due("room(2, 7)", x.room(2, 7), UNKNOWN);
        due("room(-1, 0)", x.room(-1, 0), UNKNOWN);
        due("room(0, 0) of none", none.room(0, 0), UNKNOWN);

        promise = 10;
        int[][] women = {{2, 1, 20}, {5, 0, 44}};
        for (int w = 0; w < 2; w++) {
            for (int what = 0; what < 3; what++) {
                due("woman(" + w + ", " + what + ")", x.woman(w, what), women[w][what]);
            }
        }
        due("woman(1, 3)", x.woman(1, 3), OUTSIDE);
        due("woman(1, -1)", x.woman(1, -1), OUTSIDE);
        due("woman(2, 3)", x.woman(2, 3), UNKNOWN);
        due("woman(-1, 0)", x.woman(-1, 0), UNKNOWN);
        due("woman(0, 0) of none", none.woman(0, 0), UNKNOWN);

        promise = 11;
        int[][] guests = {{3, NONE, 1, 2}, {0, 0, 0, 9}};
        for (int g = 0; g < 2; g++) {
            for (int what = 0; what < 4; what++) {
                due("guest(" + g + ", " + what + ")", x.guest(g, what), guests[g][what]);
            }
        }
        due("guest(1, 4)", x.guest(1, 4), OUTSIDE);
        due("guest(1, -1)", x.guest(1, -1), OUTSIDE);
        due("guest(2, 4)", x.guest(2, 4), UNKNOWN);
        due("guest(-1, 0)", x.guest(-1, 0), UNKNOWN);
        due("guest(0, 0) of none", none.guest(0, 0), UNKNOWN);

        promise = 12;
        due("late(1, 0)", x.late(1, 0), NONE);
        due("late(1, 44)", x.late(1, 44), 0);
        due("late(1, 45)", x.late(1, 45), OUTSIDE);
        due("late(1, -2)", x.late(1, -2), OUTSIDE);
        due("late(2, 45)", x.late(2, 45), UNKNOWN);
        due("late(-1, 0)", x.late(-1, 0), UNKNOWN);
        due("room(1, 6)", x.room(1, 6), 44);
        due("what was told stays", x.room(1, 3), 0);
        due("count(6)", x.count(6), 1);
        due("late(1, NONE)", x.late(1, NONE), 44);
        due("late(1, NONE)", x.late(1, NONE), NONE);
        due("late(0, 0) of none", none.late(0, 0), UNKNOWN);

        promise = 13;
        due("lift(0)", x.lift(0), OUTSIDE);
        due("lift(7)", x.lift(7), OUTSIDE);
        due("lift(1)", x.lift(1), 2);
        due("lift(6)", x.lift(6), 1);
        due("lift(6)", x.lift(6), 6);
        due("lift(3) of none", none.lift(3), 2);
    }

    static void days() {
        promise = 14;
        RoomsByThree x = with(PAIR, 0);
        due("gone(0, 0)", x.gone(0, 0), 2);
        due("gone(0, 1)", x.gone(0, 1), 2);
        due("gone(1, 0)", x.gone(1, 0), 0);
        due("gone(1, 1)", x.gone(1, 1), 5);
        due("gone(1, 2)", x.gone(1, 2), OUTSIDE);
        due("gone(1, -1)", x.gone(1, -1), OUTSIDE);
        due("gone(2, 2)", x.gone(2, 2), UNKNOWN);
        due("gone(0, 0) of none", new RoomsByThree().gone(0, 0), UNKNOWN);
        x.late(1, 9);
        due("a late one by way 0", x.gone(1, 0), 9);
        due("a late one: its bit stays", x.gone(1, 1), 9);
        x.late(1, NONE);

        promise = 15;
        int[][] byWay0 = {{0, 2, 5}, {1, 2, 4}};
        for (int r = 0; r < 2; r++) {
            for (int what = 0; what < 3; what++) {
                due("done(0, 0, " + r + ", " + what + ")", x.done(0, 0, r, what), byWay0[r][what]);
            }
        }
        due("done(0, 1, 1, 2)", x.done(0, 1, 1, 2), 7);
        RoomsByThree none = new RoomsByThree();
        due("no rule, no house", none.done(0, 0, 0, 0), UNKNOWN);
        none.rule(0, 0);
        due("no house", none.done(0, 9, 9, 9), STATE);
        due("no such rule", x.done(1, 9, 9, 9), UNKNOWN);
        due("no such room", x.done(0, 9, 2, 9), UNKNOWN);
        due("no such way", x.done(0, 2, 0, 0), OUTSIDE);
        due("no such what", x.done(0, 0, 0, 3), OUTSIDE);
        due("no such what", x.done(0, 0, 0, -1), OUTSIDE);

        promise = 16;
        int[][] keys = {{0, 2, 4}, {1, 4, 36}};
        for (int g = 0; g < 2; g++) {
            for (int what = 0; what < 3; what++) {
                due("given(0, 0, 0, " + g + ", " + what + ")", x.given(0, 0, 0, g, what), keys[g][what]);
            }
        }
        due("no rule, no house", new RoomsByThree().given(0, 0, 0, 0, 0), UNKNOWN);
        due("no house", none.given(0, 9, 9, 9, 9), STATE);
        due("no such rule", x.given(-1, 0, 0, 0, 0), UNKNOWN);
        due("no such guest", x.given(0, 9, 9, 2, 9), UNKNOWN);
        due("no such way", x.given(0, 2, 0, 0, 0), OUTSIDE);
        due("no such giving", x.given(0, 0, 2, 0, 0), OUTSIDE);
        due("no such what", x.given(0, 0, 0, 0, 3), OUTSIDE);

        promise = 17;
        due("cost(0, 0, 0)", x.cost(0, 0, 0), 40);
        due("cost(0, 1, 1)", x.cost(0, 1, 1), 67);
        due("no such rule", x.cost(1, 0, 0), UNKNOWN);
        due("no house", none.cost(0, 9, 9), STATE);
        due("no such way", x.cost(0, 2, 0), OUTSIDE);
        due("no such way", x.cost(0, -1, 0), OUTSIDE);
        due("no such giving", x.cost(0, 0, 2), OUTSIDE);
        due("no such giving", x.cost(0, 0, -1), OUTSIDE);
    }

    /** When the three rooms of TRIO are ready by a rule. */
    static void ready(RoomsByThree x, int rule, int... quarters) {
        for (int r = 0; r < quarters.length; r++) {
            due("done(" + rule + ", 0, " + r + ", 2)", x.done(rule, 0, r, 2), quarters[r]);
        }
    }

    static void kinds() {
        promise = 15;
        RoomsByThree x = with(TRIO, 0, 1, 2, 3, 4);
        ready(x, 0, 6, 11, 13);
        ready(x, 1, 6, 11, 13);
        ready(x, 2, 14, 4, 6);
        ready(x, 3, 14, 7, 3);
        ready(x, 4, 11, 16, 3);
        ready(x, told(x, "271"), NONE, 7, 3);
        ready(x, told(x, ";0;12"), NONE, NONE, NONE);
        x.lift(6);
        ready(x, 0, 6, 10, 12);
        x.lift(1);
        ready(x, 0, 7, 13, 16);

        RoomsByThree waits = with("1a2g10,1a2g4;1f0t44;0a1", 0, 2);
        ready(waits, 0, 12, 14);
        ready(waits, 1, 12, 6);
        RoomsByThree rides = with("5a2g10;1f0t44;0a1", 0, 1, 2);
        ready(rides, 0, 12);
        ready(rides, 1, 12);
        ready(rides, 2, 14);
        due("she rides when it is gone", rides.done(2, 0, 0, 1), 12);

        RoomsByThree ends = with("1a9g0,1a2g0,1a1g0;1f0t3;0a1", 0, 1, 2, 3);
        told(ends, "012");
        for (int rule = 0; rule < 5; rule++) {
            ready(ends, rule, NONE, rule == 3 ? 3 : 2, rule == 3 ? 1 : 3);
        }
        due("nobody", ends.done(0, 0, 0, 0), NONE);
        due("never", ends.done(0, 0, 0, 1), NONE);

        RoomsByThree floors = with("3a1g0,6a1g9,6a1g2;2f0t44,4f0t44,6f0t10;0a1", 1);
        due("the nearest, of like ones the least", floors.done(0, 0, 0, 0), 0);
        due("hers are done as they are gone", floors.done(0, 0, 2, 2), 3);
        due("hers are done as they are gone", floors.done(0, 0, 1, 2), 10);
        due("by her", floors.done(0, 0, 1, 0), 2);
        floors.late(1, 10);
        due("of like ones she may not do one", floors.done(0, 0, 1, 0), NONE);

        RoomsByThree like = with("3a1g0,5a1g0,3a1g0;4f0t44,4f0t44;0a1", 0, 2, 3, 4);
        for (int rule = 1; rule < 4; rule++) {
            due("of like rooms the least", like.done(rule, 0, 0, 0), 0);
            due("then the next woman", like.done(rule, 0, 1, 0), 1);
            due("then the one free first", like.done(rule, 0, 2, 0), 0);
        }

        RoomsByThree many = with(EIGHT, 0, 5);
        for (int r = 0; r < 8; r++) {
            due("a BEST of eight is a LIST", many.done(1, 0, r, 2), many.done(0, 0, r, 2));
        }
    }

    static void keys() {
        promise = 16;
        RoomsByThree x = with("1a1g0,1a3g0;1f0t44;5x1,0x1,5x9", 0);
        due("who comes first has the first", x.given(0, 0, 0, 1, 0), 0);
        due("then of like ones the least", x.given(0, 0, 0, 0, 0), 1);
        due("none is left", x.given(0, 0, 0, 2, 0), NONE);
        due("it waits to the end", x.given(0, 0, 0, 2, 1), 39);
        due("by its weight", x.given(0, 0, 0, 2, 2), 351);
        due("wisely guest 0 has none", x.given(0, 0, 1, 0, 0), NONE);
        due("wisely guest 1 has the first", x.given(0, 0, 1, 1, 0), 0);
        due("wisely guest 2 has the other", x.given(0, 0, 1, 2, 0), 1);
        due("as they come", x.cost(0, 0, 0), 1 + 351);
        due("wise", x.cost(0, 0, 1), 1 + 39);

        RoomsByThree late = with("1a1g0,1a1g0;1f0t44;44a5,44a5", 0);
        due("of like ones guest 0 the least", late.given(0, 0, 1, 0, 0), 0);
        due("and not none", late.given(0, 0, 1, 1, 0), 1);
        due("it costs nothing", late.cost(0, 0, 1), 0);
        wisely("1a1g0,1a1g0,1a1g0;1f0t44;44a1,44a1,44a1", 0, 1, 2);
        wisely("1a1g0,1b1g0,1a1g0;1f0t44;44x1,44x1,44a1", 0, 1, 2);
        wisely("1a1g0,1b1g0,1c1g0;1f0t44;44x1,44x1,44b1,44a1", 0, 1, NONE, NONE);
        wisely("1b1g0,1a1g0,1a1g0;1f0t44;44a1,44x1,44b1,44x9", 1, 0, NONE, 2);
        wisely("1a1g0,1b1g0;1f0t44;20x3,20a3,20b3", 0, NONE, 1);
        wisely("1a1g0,1b1g0;1f0t44;20x3,20x3,20a4", 1, NONE, 0);
        wisely("1a1g0,1a1g0,1a1g0,1a1g0;1f0t44;0a2,0a2,0a2,0a2", 0, 1, 2, 3);
        wisely("1a1g0,1a1g0,1a1g0,1a1g0;1f0t44;0a1,0a2,0a3,0a4", 3, 2, 1, 0);

        RoomsByThree high = with("3a1g0,4b1g0;1f0t44;0xh1,0ah1,0b1", 0);
        due("high is 4 at least", high.given(0, 0, 0, 0, 0), 1);
        due("high and of a sort", high.given(0, 0, 0, 1, 0), NONE);
        due("none of its sort is left", high.given(0, 0, 0, 2, 0), NONE);
        RoomsByThree undone = with("1a9g40;1f0t44;0a1", 0);
        due("what will not be ready is not given", undone.given(0, 0, 0, 0, 0), NONE);
        due("nor wisely", undone.given(0, 0, 1, 0, 0), NONE);
        due("it costs all", undone.cost(0, 0, 1), 44);
    }

    /** The rooms that are given wisely by a LIST, guest by guest. */
    static void wisely(String house, int... rooms) {
        RoomsByThree x = with(house, 0);
        for (int g = 0; g < rooms.length; g++) {
            due("'" + house + "' wisely, guest " + g, x.given(0, 0, 1, g, 0), rooms[g]);
        }
    }

    static void chances() {
        promise = 18;
        RoomsByThree x = with(PAIR, 0);
        RoomsByThree none = new RoomsByThree();
        none.rule(0, 0);
        due("mean above", x.mean(0, 0, 0), 589);
        due("mean below", x.mean(0, 0, 1), 10);
        due("no such rule", x.mean(1, 9, 9), UNKNOWN);
        due("no house", none.mean(0, 9, 9), STATE);
        due("no such giving", x.mean(0, 2, 0), OUTSIDE);
        due("no such part", x.mean(0, 0, 2), OUTSIDE);
        x.late(1, 0);
        due("late: not by chance", x.mean(0, 0, 0), 40);
        due("late: not by chance", x.mean(0, 0, 1), 1);
        x.late(1, NONE);
        RoomsByThree nothing = with("1a1g0/1g1;1f0t44;44a1", 0);
        due("nothing above", nothing.mean(0, 0, 0), 0);
        due("one below", nothing.mean(0, 0, 1), 1);

        promise = 19;
        due("worst(.., 0)", x.worst(0, 0, 0), 1);
        due("worst(.., 1)", x.worst(0, 0, 1), 67);
        due("no such rule", x.worst(1, 9, 9), UNKNOWN);
        due("no house", none.worst(0, 9, 9), STATE);
        due("no such giving", x.worst(0, -1, 0), OUTSIDE);
        due("no such what", x.worst(0, 0, 2), OUTSIDE);
        due("of like ones the least", nothing.worst(0, 0, 0), 0);

        promise = 20;
        due("sure above", x.sure(0, 0, 1, 4, 0), 3);
        due("sure below", x.sure(0, 0, 1, 4, 1), 10);
        due("not at all", x.sure(0, 0, 1, 3, 0), 0);
        due("not at all, below", x.sure(0, 0, 1, 3, 1), 1);
        due("wholly", x.sure(0, 0, 1, 7, 0), 1);
        due("44 quarters", x.sure(0, 1, 1, 44, 1), 1);
        due("no such rule", x.sure(1, 0, 9, 9, 9), UNKNOWN);
        due("no house", none.sure(0, 9, 9, 99, 9), STATE);
        due("no such guest", x.sure(0, 9, 2, 99, 9), UNKNOWN);
        due("no such giving", x.sure(0, 2, 1, 0, 0), OUTSIDE);
        due("quarters 45", x.sure(0, 0, 1, 45, 0), OUTSIDE);
        due("quarters -1", x.sure(0, 0, 1, -1, 0), OUTSIDE);
        due("no such part", x.sure(0, 0, 1, 0, 2), OUTSIDE);

        promise = 21;
        due("by 1", x.tells(0, 0, 1, 1), 4);
        due("by 3", x.tells(0, 0, 1, 3), 4);
        due("by 4", x.tells(0, 0, 1, 4), 7);
        due("by 10", x.tells(0, 0, 1, 10), 7);
        due("no such rule", x.tells(1, 9, 9, 99), UNKNOWN);
        due("no house", none.tells(0, 9, 9, 99), STATE);
        due("no such guest", x.tells(0, 9, -1, 99), UNKNOWN);
        due("no such giving", x.tells(0, 2, 1, 1), OUTSIDE);
        due("tenths 0", x.tells(0, 0, 1, 0), OUTSIDE);
        due("tenths 11", x.tells(0, 0, 1, 11), OUTSIDE);

        promise = 22;
        int wayTwo = 0;
        for (int seed : new int[] {0, 1, 9, 65536, MOST, 123456789}) {
            int next = (int) ((1103515245L * seed + 12345L) & 0x7fffffffL);
            int way = next / 65536 % 10 < 3 ? 0 : 1;
            wayTwo += way;
            due("run way of " + seed, x.run(0, 0, seed, 0), way);
            due("run cost of " + seed, x.run(0, 1, seed, 1), way == 0 ? 40 : 67);
            due("run seed of " + seed, x.run(0, 0, seed, 2), next);
        }
        due("both ways were seen", wayTwo > 0 && wayTwo < 6 ? 1 : 0, 1);
        due("no such rule", x.run(1, 9, -1, 9), UNKNOWN);
        due("no house", none.run(0, 9, -1, 9), STATE);
        due("no such giving", x.run(0, 2, 0, 0), OUTSIDE);
        due("seed below 0", x.run(0, 0, -1, 0), OUTSIDE);
        due("no such what", x.run(0, 0, 0, 3), OUTSIDE);
        x.late(1, 0);
        due("late: no draw", x.run(0, 0, 65536, 2), 65536);
        due("late: its bit is 0", x.run(0, 0, 65536, 0), 0);
        due("no room by chance: no draw", with(TRIO, 0).run(0, 0, 77, 2), 77);
    }

    static void orders() {
        promise = 23;
        RoomsByThree x = with("1a9g0,1b1g0;1f0t44;0a1,0b9", 0, 5);
        due("best(0, 0)", x.best(0, 0), 1);
        due("best(1, 1)", x.best(1, 1), 0);
        due("best(0, 2)", x.best(0, 2), NONE);
        due("best(0, 5)", x.best(0, 5), NONE);
        due("a LIST", x.cost(0, 0, 0), 99);
        due("a BEST", x.cost(1, 0, 0), 19);
        due("i 6", x.best(0, 6), OUTSIDE);
        due("i -1", x.best(0, -1), OUTSIDE);
        due("no such giving", x.best(2, 0), OUTSIDE);
        due("counted", x.count(7), 4);
        due("no house", new RoomsByThree().best(9, 9), STATE);
        RoomsByThree many = with(EIGHT);
        due("OUTSIDE ahead", many.best(0, 6), OUTSIDE);
        due("eight rooms", many.best(0, 0), STATE);
        due("of like ones the first", with("1a1g0,1a1g0,1a1g0;1f0t44;44a1").best(1, 0), 0);
        x.late(1, 40);
        due("it depends on what is late", x.best(0, 0), 0);

        promise = 24;
        x = with(DOUBT, 0, 5);
        due("mean of a BEST", x.mean(1, 0, 0), 155);
        due("call above", x.call(0, 0, 0), 25);
        due("call below", x.call(1, 0, 1), 2);
        due("not by chance", x.call(9, 1, 9), UNKNOWN);
        due("no such room", x.call(9, 2, 9), UNKNOWN);
        due("no house", new RoomsByThree().call(9, 0, 9), UNKNOWN);
        due("no such giving", x.call(2, 0, 0), OUTSIDE);
        due("no such part", x.call(0, 0, 2), OUTSIDE);
        RoomsByThree seven = with("1a1g0/5g9,1a1g0,1a1g0,1a1g0,1a1g0,1a1g0,1a1g0;1f0t44;0a1");
        due("seven rooms, OUTSIDE ahead", seven.call(0, 0, -1), OUTSIDE);
        due("seven rooms", seven.call(0, 0, 0), STATE);

        promise = 25;
        due("called(0)", x.called(0), 0);
        due("no such giving", x.called(2), OUTSIDE);
        due("no house", new RoomsByThree().called(2), STATE);
        due("seven rooms, OUTSIDE ahead", seven.called(-1), OUTSIDE);
        due("seven rooms", seven.called(0), STATE);
        x.late(0, 0);
        due("late", x.call(0, 0, 0), UNKNOWN);
        due("none by chance", x.called(1), NONE);
        due("it counts", x.count(7), 4);
        due("of like ones the least", with("1a1g0,1a1g0/5g1,1a1g0/5g1;1f0t44;44a1").called(0), 1);
        due("the one of most", with("1c1g0/5g1,1a5g0/5g20,1b5g0;1f0t44;0a9,0b1").called(0), 1);
    }

    static void theSix() {
        promise = 26;
        RoomsByThree x = with("1a4g0,6a4g0;1f0t44,6f0t44;0a1,0a9", 0, 1);
        told(x, "0;1");
        due("missed by FLOORS", x.missed(1, 1), 0);
        due("of like ones the least", x.missed(2, 0), 0);
        due("the second", with("6a1g0,1a1g0;1f0t44,6f0t44;0a1,0a1", 0).missed(0, 0), 1);
        due("the one without whom it is worst", with("1a1g0,5a1g0;1f0t2,5f0t44;0a1,0a1", 0).missed(0, 0), 1);
        due("one alone", with(TRIO, 2).missed(0, 1), 0);
        due("all are there behind it", x.cost(2, 0, 1), 40);
        due("no such rule", x.missed(3, 9), UNKNOWN);
        due("no such giving", x.missed(0, 2), OUTSIDE);
        RoomsByThree none = new RoomsByThree();
        none.rule(0, 0);
        due("no house", none.missed(0, 9), STATE);

        promise = 27;
        x = with(TRIO, 0);
        told(x, ";210");
        told(x, "210");
        due("more above", x.more(1, 0, 0), 73);
        due("more below", x.more(1, 0, 1), 1);
        due("none is left for her", x.more(2, 1, 0), 0);
        due("she is gone again", x.cost(1, 0, 0), 73);
        due("no such rule", x.more(3, 9, 9), -10000001);
        due("no house", none.more(0, 9, 9), -10000003);
        due("no such giving", x.more(0, 2, 0), -10000002);
        due("no such part", x.more(0, 0, 2), -10000002);
        RoomsByThree half = with("1a4g0/5g8,1a4g0;1f0t44;0a9,0a9", 0);
        due("half, above", half.more(0, 0, 0), 72);
        due("a fourth woman", with("1a4g0,1a4g0,1a4g0,1a4g0;1f0t44,1f0t44,1f0t44;0a1,0a1,0a1,0a1", 0).more(0, 0, 0), 4);
        RoomsByThree less = with("3a2g0,3b2g3;6f0t10;0a8,0b7", 2);
        due("it may be below 0", less.more(0, 0, 0), -7);
        due("below it is not", less.more(0, 0, 1), 1);

        promise = 28;
        x = with(TRIO);
        due("no rules", x.which(0), NONE);
        due("it counts", x.count(7), 1);
        told(x, ";");
        x.rule(0, 0);
        x.rule(0, 0);
        due("the least of like ones", x.which(0), 1);
        due("no such giving", x.which(2), OUTSIDE);
        due("no house", none.which(2), STATE);
        due("a BEST by its own giving", with(DOUBT, 0, 5).which(1), 0);
        due("the least mean", with("1a9g0,1b1g0;1f0t44;0a1,0b9", 0, 5).which(0), 1);
    }

    static void images() {
        promise = 29;
        RoomsByThree x = with(PAIR);
        due("image of none late", x.image(), 0);
        x.late(0, 3);
        x.late(1, 4);
        x.lift(5);
        due("image of two late", x.image(), 2);
        due("no house", new RoomsByThree().image(), STATE);

        promise = 30;
        x.late(0, NONE);
        x.late(1, 9);
        x.lift(1);
        due("restore()", x.restore(), 2);
        due("room 0", x.room(0, 6), 3);
        due("room 1", x.room(1, 6), 4);
        due("the lift", x.lift(3), 5);
        due("once more", x.restore(), 2);
        due("the lift once more", x.lift(2), 5);
        put(x, "zz");
        due("a house refused", x.house(), STATE);
        due("that was none", x.restore(), 2);
        x.blank();
        put(x, PAIR);
        x.house();
        due("a house was read since", x.restore(), STATE);
        x.image();
        due("a new one is kept", x.restore(), 0);
        due("none was kept", with(PAIR).restore(), STATE);
        RoomsByThree y = with("1a9g0,1b1g0;1f0t44;0a1,0b9", 5);
        y.image();
        y.late(1, 40);
        due("late: the best is another", y.done(0, 0, 0, 2), 9);
        y.restore();
        due("restored: the best is as it was", y.done(0, 0, 0, 2), 10);
    }

    static void sixteen() {
        promise = 31;
        RoomsByThree x = with(DOUBT, 0);
        x.image();
        for (int i = 0; i < 16; i++) {
            due("count(7)", x.count(7), i);
            int answer = i % 6 == 0 ? x.best(0, 5) : i % 6 == 1 ? x.call(0, 0, 1) : i % 6 == 2 ? x.called(0)
                    : i % 6 == 3 ? x.missed(0, 0) : i % 6 == 4 ? x.more(0, 0, 1) : x.which(0);
            due("one of the six", answer < -100 ? 1 : 0, 0);
            x.best(7, 0);
            x.call(0, 7, 0);
            x.called(7);
            x.missed(7, 0);
            x.more(0, 7, 0);
            x.which(7);
        }
        due("count(7)", x.count(7), 16);
        x.restore();
        put(x, DOUBT);
        x.house();
        due("best", x.best(0, 0), STATE);
        due("best, OUTSIDE ahead", x.best(0, 6), OUTSIDE);
        due("call", x.call(0, 0, 0), STATE);
        due("call, UNKNOWN ahead", x.call(0, 1, 0), UNKNOWN);
        due("call, OUTSIDE ahead", x.call(0, 0, 2), OUTSIDE);
        due("called", x.called(0), STATE);
        due("called, OUTSIDE ahead", x.called(2), OUTSIDE);
        due("missed", x.missed(0, 0), STATE);
        due("missed, UNKNOWN ahead", x.missed(1, 0), UNKNOWN);
        due("missed, OUTSIDE ahead", x.missed(0, 2), OUTSIDE);
        due("more", x.more(0, 0, 0), -10000003);
        due("more, UNKNOWN ahead", x.more(1, 0, 0), -10000001);
        due("more, OUTSIDE ahead", x.more(0, 0, 2), -10000002);
        due("which", x.which(0), STATE);
        due("which, OUTSIDE ahead", x.which(2), OUTSIDE);
        due("count(7)", x.count(7), 16);
    }

    static void all() {
        promise = 31;
        RoomsByThree x = with(PAIR, 0, 5);
        x.late(1, 3);
        x.letters('q');
        x.which(0);
        int[] counts = {2, 2, 2, 2, 1, 1, 1, 1};
        for (int what = 0; what < 8; what++) {
            due("count(" + what + ")", x.count(what), counts[what]);
        }
        due("count(8)", x.count(8), OUTSIDE);
        due("count(-1)", x.count(-1), OUTSIDE);
        due("count(least)", x.count(LEAST), OUTSIDE);

        promise = 32;
        int costs = x.cost(0, 0, 0);
        long[] numbers = {4, 1, 3, 2, -1, -1, -1, 1, 0, 2, 0, 5, 3, 3, 2, 1, 20, 5, 0, 44, 3, -1, 1, 2, 0, 0, 0, 9, 2,
            0, 0, costs, x.cost(0, 0, 1), 5, 0, 'q', 2, 2, 2, 2, 1, 1, 1, 1};
        due("digest()", x.digest(), hash(numbers));
        RoomsByThree none = new RoomsByThree();
        due("digest() of a new one", none.digest(), hash(2, 0, 0, 0, 0, 0, 0, 0, 0));
        none.rule(5, 1);
        told(none, "01");
        none.lift(4);
        due("digest() without a house", none.digest(), hash(4, 5, 1, 6, 0, 0, 0, 0, 2, 0, 0, 0, 0));
    }

    static long hash(long... numbers) {
        long h = 419;
        for (long number : numbers) {
            h = 31 * h + number;
        }
        return h;
    }
}
