/** The sentences about texts: THE PAGE, what a HOUSE and a TOLD rule are, and the calls that read them. */
public final class TextsTest {
    static final int NONE = Checks.NONE, OUTSIDE = Checks.OUTSIDE, STATE = Checks.STATE, FULL = Checks.FULL;
    static final String DIGITS = "0123456789", FROM_1 = "123456789", FLOORS = "123456", SORTS = "abcd";
    static final String LESS = "1a1g0", CHANCE = "1a1g0/1g1";
    /** No house is longer: 142 letters. */
    static final String LONGEST = "6d9g40/9g41,6d9g40/9g41,6d9g40/9g41," + Checks.times(5, "6d9g40", ",")
            + ";6f40t44,6f40t44,6f40t44;" + Checks.times(8, "44xh9", ",");

    public static void main(String[] args) {
        letters();
        fullPage();
        blank();
        oldLetters();
        faultOfRooms();
        faultOfLaterQuarters();
        faultOfWomen();
        faultOfGuests();
        faultOfTold();
        faultItself();
        numbers();
        counts();
        house();
        tell();
        Checks.end();
    }

    static void says(String words) {
        Checks.says(words);
    }

    static void due(String call, long got, long want) {
        Checks.due(call, got, want);
    }

    // ---- the page

    static void letters() {
        says("up to eight, told by their codes in the bytes of w, the lowest byte first, until a byte that is 0: "
                + "how many THE PAGE has.");
        String eight = "1a1g0;1f";
        for (int n = 0; n <= 8; n++) {
            RoomsByThree x = new RoomsByThree();
            due("letters of " + n, x.letters(Checks.word(eight.substring(0, n))), n);
            due("their order: fault(0)", x.fault(0), n);
            due("letters(0) behind them", x.letters(0), n);
            due("one more", x.letters('z'), n + 1);
            due("it comes behind", x.fault(0), n);
        }
        RoomsByThree all = Checks.page(eight);
        due("eight and eight", all.letters(Checks.word("0t1;0a1,")), 16);
        due("all in order", all.fault(0), 16);

        says("OUTSIDE: a byte above 126, or one behind a 0 that is not 0;");
        for (int at = 0; at < 8; at++) {
            for (int code = 0; code < 256; code++) {
                long mask = ~(255L << 8 * at);
                long behind = Checks.word("abcdefgh") & mask | (long) code << 8 * at;
                boolean fine = code <= 126 && (code != 0 || at == 7);
                int count = code == 0 ? 7 : 8;
                due("letters, byte " + at + " of eight is " + code, new RoomsByThree().letters(behind),
                        fine ? count : OUTSIDE);
                long last = Checks.word("abcdefgh".substring(0, at)) | (long) code << 8 * at;
                due("letters, the last byte, " + at + ", is " + code, new RoomsByThree().letters(last),
                        code > 126 ? OUTSIDE : code == 0 ? at : at + 1);
            }
        }
        for (int zero = 0; zero < 7; zero++) {
            for (int at = zero + 1; at < 8; at++) {
                long w = Checks.word("abcdefgh".substring(0, zero)) | 1L << 8 * at;
                due("a 1 in byte " + at + " behind a 0 in byte " + zero, new RoomsByThree().letters(w), OUTSIDE);
            }
        }
        due("-1", new RoomsByThree().letters(-1L), OUTSIDE);
        due("the least long", new RoomsByThree().letters(Long.MIN_VALUE), OUTSIDE);
        due("the greatest long", new RoomsByThree().letters(Long.MAX_VALUE), OUTSIDE);
        RoomsByThree x = Checks.page("1a");
        x.letters(Checks.word("1g") | 127L << 16);
        due("nothing came of a word OUTSIDE", x.count(4), 2);
        x.letters(Checks.word("1g"));
        due("the page is as if it had not been", x.fault(0), 4);
    }

    static RoomsByThree pageOf(int length) {
        return Checks.page(Checks.times(length, "a", ""));
    }

    static void fullPage() {
        says("FULL: above 160.");
        for (int n = 1; n <= 8; n++) {
            String part = "bcdefghi".substring(0, n);
            due(n + " up to 160", pageOf(160 - n).letters(Checks.word(part)), 160);
            RoomsByThree x = pageOf(161 - n);
            long before = x.digest();
            due(n + " up to 161", x.letters(Checks.word(part)), FULL);
            due("it has as many as before", x.count(4), 161 - n);
            due("they are as before", x.digest(), before);
            due(n + " behind 160", pageOf(160).letters(Checks.word(part)), FULL);
        }
        due("none behind 160", pageOf(160).letters(0), 160);
        due("OUTSIDE ahead of FULL: above 126", pageOf(160).letters(127), OUTSIDE);
        due("OUTSIDE ahead of FULL: behind a 0", pageOf(160).letters('a' << 16 | 'a'), OUTSIDE);
        due("OUTSIDE ahead of FULL: behind a first 0", pageOf(160).letters('a' << 8), OUTSIDE);
        due("fault(0) of a full page", pageOf(160).fault(0), 0);
        due("fault(1) of a full page", pageOf(160).fault(1), 0);
        due("house() of a full page", pageOf(160).house(), STATE);
        due("tell() of a full page", pageOf(160).tell(), STATE);
        RoomsByThree x = Checks.page(LONGEST + Checks.times(18, "~", ""));
        due("a house, and letters up to 160", x.count(4), 160);
        due("its fault is behind the house", x.fault(0), 142);
        due("it is none", x.house(), STATE);
    }

    static void blank() {
        says("THE PAGE is empty: how many letters it had.");
        for (int n : new int[] {0, 1, 8, 9, 159, 160}) {
            RoomsByThree x = pageOf(n);
            due("blank() of " + n, x.blank(), n);
            due("count(4)", x.count(4), 0);
            due("blank() again", x.blank(), 0);
            due("it is as new", x.digest(), new RoomsByThree().digest());
            due("letters come again", x.letters(Checks.word("1a")), 2);
            due("those alone", x.fault(0), 2);
        }
        RoomsByThree x = Checks.put(Checks.with("1a1g0;1f0t1;0a1", 0), "zz");
        x.late(0, 3);
        x.blank();
        due("the house stays", x.count(0), 1);
        due("what is late stays", x.room(0, 6), 3);
        due("rules stay", x.count(3), 1);
    }

    /** What stood behind the end of a page once is nothing of it. */
    static void oldLetters() {
        says("THE PAGE is empty: how many letters it had.");
        String house = "1a1g1/1g41,6d9g40;1f1t44,2f3t4;44xh1,0a9";
        for (int cut = 0; cut < house.length(); cut++) {
            RoomsByThree x = Checks.page(house);
            x.blank();
            Checks.put(x, house.substring(0, cut));
            due("cut at " + cut + ": fault(0)", x.fault(0), cut);
            boolean whole = cut == house.length() - 4;
            due("cut at " + cut + ": house()", x.house(), whole ? 2 : STATE);
            RoomsByThree y = Checks.page(house);
            y.house();
            Checks.put(y, house.substring(0, cut));
            due("read, then cut at " + cut + ": fault(0)", y.fault(0), cut);
            due("read, then cut at " + cut + ": house()", y.house(), whole ? 2 : STATE);
        }
        String told = "012;34;567";
        for (int cut = 1; cut < told.length(); cut++) {
            RoomsByThree x = Checks.page(told);
            x.tell();
            Checks.put(x, told.substring(0, cut));
            due("told, then cut at " + cut + ": fault(1)", x.fault(1), cut);
            due("told, then cut at " + cut + ": tell()", x.tell(), 1);
        }
        RoomsByThree full = pageOf(160);
        due("fault(0) of 160 letters", full.fault(0), 0);
        due("blank()", full.blank(), 160);
        due("fault(0) of none", full.fault(0), 0);
        due("house() of none", full.house(), STATE);
        due("tell() of none", full.tell(), STATE);
    }

    // ---- what may stand where

    /** Behind this head these letters may stand, and no other of 1 to 126. */
    static void behind(int sort, String head, String allowed) {
        due("fault(" + sort + ") of '" + head + "'", Checks.page(head).fault(sort), head.length());
        for (char sign = 1; sign <= 126; sign++) {
            int place = head.length() + (allowed.indexOf(sign) >= 0 ? 1 : 0);
            RoomsByThree x = Checks.page(head + sign);
            due("fault(" + sort + ") of '" + head + "' and " + (int) sign, x.fault(sort), place);
            if (place == head.length()) {
                due("house() or tell() of it", sort == 0 ? x.house() : x.tell(), STATE);
                due("fault with letters behind", Checks.page(head + sign + "1;0a").fault(sort), place);
            }
        }
    }

    static void rooms(String head, String allowed) {
        behind(0, head, allowed);
    }

    static void faultOfRooms() {
        says("ROOMS (1 to 8) with \",\" between: a FLOOR (1 to 6), a SORT (a to d), WORK (1 to 9; QUARTERS), \"g\", "
                + "GONE (a QUARTER 0 to 40), then perhaps \"/\", TENTHS (1 to 9), \"g\"");
        rooms("", FLOORS);
        for (char floor : FLOORS.toCharArray()) {
            rooms("" + floor, SORTS);
        }
        for (char sort : SORTS.toCharArray()) {
            rooms("1" + sort, FROM_1);
        }
        for (char work : FROM_1.toCharArray()) {
            rooms("1a" + work, "g");
        }
        rooms("1a1g", DIGITS);
        rooms("1a1g0", "/,;");
        for (int gone = 1; gone <= 3; gone++) {
            rooms("1a1g" + gone, DIGITS + "/,;");
        }
        rooms("1a1g4", "0/,;");
        for (int gone = 5; gone <= 40; gone++) {
            if (gone < 10 || gone % 10 == 0 || gone % 10 == 9) {
                rooms("1a1g" + gone, "/,;");
            }
        }
        rooms("1a1g0/", FROM_1);
        rooms("1a1g40/", FROM_1);
        for (char tenths : FROM_1.toCharArray()) {
            rooms("1a1g0/" + tenths, "g");
        }
        rooms("1a1g0,", FLOORS);
        rooms("1a1g40,6", SORTS);
        rooms(Checks.times(6, LESS, ",") + ",1a1g0", "/,;");
        rooms(Checks.times(7, LESS, ",") + ",", FLOORS);
        rooms(Checks.times(8, LESS, ","), "/;");
        rooms(Checks.times(7, LESS, ",") + ",1a1g4", "0/;");
        rooms(Checks.times(7, LESS, ",") + ",1a1g40", "/;");
        rooms(Checks.times(7, LESS, ",") + "," + CHANCE, DIGITS + ";");
        rooms(Checks.times(8, LESS, ",") + ";", FLOORS);

        says("(BY CHANCE; three ROOMS at most)");
        rooms(CHANCE + ",1a1g0", "/,;");
        rooms(CHANCE + "," + CHANCE + ",1a1g0", "/,;");
        rooms(CHANCE + "," + CHANCE + "," + CHANCE + ",1a1g0", ",;");
        rooms(CHANCE + "," + CHANCE + "," + CHANCE + ",1a1g1", DIGITS + ",;");
        rooms(CHANCE + "," + CHANCE + "," + CHANCE + ",1a1g40", ",;");
        rooms("1a1g0," + CHANCE + ",1a1g0," + CHANCE + ",1a1g0,1a1g0," + CHANCE + ",1a1g0", ";");
    }

    static void faultOfLaterQuarters() {
        says("a later QUARTER (41 at most, greater than the first)");
        rooms("1a1g0/1g", FROM_1);
        rooms("1a1g0/1g1", DIGITS + ",;");
        rooms("1a1g0/1g3", DIGITS + ",;");
        rooms("1a1g0/1g4", "01,;");
        rooms("1a1g0/1g5", ",;");
        rooms("1a1g0/1g9", ",;");
        rooms("1a1g0/1g10", ",;");
        rooms("1a1g0/1g41", ",;");
        rooms("1a1g1/1g", FROM_1);
        rooms("1a1g1/1g1", DIGITS);
        rooms("1a1g3/1g", FROM_1);
        rooms("1a1g3/1g3", DIGITS);
        rooms("1a1g4/1g4", "01");
        rooms("1a1g5/1g", "12346789");
        rooms("1a1g5/1g1", DIGITS);
        rooms("1a1g5/1g4", "01");
        rooms("1a1g5/1g6", ",;");
        rooms("1a1g8/1g", "12349");
        rooms("1a1g9/1g", "1234");
        rooms("1a1g9/1g1", DIGITS);
        rooms("1a1g10/1g", "1234");
        rooms("1a1g10/1g1", FROM_1);
        rooms("1a1g18/1g1", "9");
        rooms("1a1g19/1g", "234");
        rooms("1a1g19/1g2", DIGITS);
        rooms("1a1g20/1g2", FROM_1);
        rooms("1a1g29/1g", "34");
        rooms("1a1g39/1g", "4");
        rooms("1a1g39/1g4", "01");
        rooms("1a1g40/1g", "4");
        rooms("1a1g40/1g4", "1");
        rooms("1a1g40/1g41", ",;");
    }

    static void faultOfWomen() {
        says("Then \";\" and WOMEN (1 to 3) with \",\" between: a FLOOR (1 to 6), \"f\", FROM (0 to 40), \"t\", "
                + "TO (44 at most, greater than FROM).");
        String head = "1a1g0;";
        rooms(head, FLOORS);
        for (char floor : FLOORS.toCharArray()) {
            rooms(head + floor, "f");
        }
        rooms(head + "1f", DIGITS);
        rooms(head + "1f0", "t");
        rooms(head + "1f1", DIGITS + "t");
        rooms(head + "1f3", DIGITS + "t");
        rooms(head + "1f4", "0t");
        rooms(head + "1f5", "t");
        rooms(head + "1f10", "t");
        rooms(head + "1f40", "t");
        rooms(head + "1f0t", FROM_1);
        rooms(head + "1f0t1", DIGITS + ",;");
        rooms(head + "1f0t4", "01234,;");
        rooms(head + "1f0t5", ",;");
        rooms(head + "1f0t44", ",;");
        rooms(head + "1f1t1", DIGITS);
        rooms(head + "1f4t4", "01234");
        rooms(head + "1f5t", "12346789");
        rooms(head + "1f5t4", "01234");
        rooms(head + "1f9t", "1234");
        rooms(head + "1f10t1", FROM_1);
        rooms(head + "1f19t", "234");
        rooms(head + "1f39t", "4");
        rooms(head + "1f39t4", "01234");
        rooms(head + "1f40t", "4");
        rooms(head + "1f40t4", "1234");
        rooms(head + "1f40t41", ",;");
        rooms(head + "1f0t44,", FLOORS);
        rooms(head + "1f0t44,6f40t44", ",;");
        rooms(head + "1f0t44,1f0t44,", FLOORS);
        rooms(head + "1f0t44,1f0t44,1f0t44", ";");
        rooms(head + "1f0t44,1f0t44,1f0t4", "01234;");
        rooms(head + "1f0t44,1f0t44,1f40t4", "1234");
        rooms(Checks.times(8, LESS, ",") + ";1f0t44", ",;");
    }

    static void faultOfGuests() {
        says("Then \";\" and GUESTS (1 to 8) with \",\" between: COMES (0 to 44), a SORT that is wished (a to d, x: any), "
                + "then perhaps \"h\" (HIGH: FLOOR 4 at least), then WEIGHT (1 to 9).");
        String head = "1a1g0;1f0t1;";
        rooms(head, DIGITS);
        rooms(head + "0", SORTS + "x");
        rooms(head + "1", DIGITS + SORTS + "x");
        rooms(head + "3", DIGITS + SORTS + "x");
        rooms(head + "4", "01234" + SORTS + "x");
        rooms(head + "5", SORTS + "x");
        rooms(head + "9", SORTS + "x");
        rooms(head + "10", SORTS + "x");
        rooms(head + "40", SORTS + "x");
        rooms(head + "44", SORTS + "x");
        for (char sort : "abcdx".toCharArray()) {
            rooms(head + "0" + sort, "h" + FROM_1);
            rooms(head + "44" + sort + "h", FROM_1);
        }
        for (char weight : FROM_1.toCharArray()) {
            rooms(head + "0a" + weight, ",");
            rooms(head + "0xh" + weight, ",");
        }
        rooms(head + "0a1,", DIGITS);
        rooms(head + Checks.times(7, "0a1", ","), ",");
        rooms(head + Checks.times(7, "0a1", ",") + ",", DIGITS);
        rooms(head + Checks.times(8, "0a1", ","), "");
        rooms(head + Checks.times(7, "0a1", ",") + ",44xh9", "");
        rooms(head + Checks.times(7, "0a1", ",") + ",4", "01234" + SORTS + "x");
        rooms(LONGEST, "");
        rooms(LONGEST.substring(0, 141), FROM_1);

        says("Numbers have no 0 ahead.");
        rooms("1a1g0", "/,;");
        rooms("1a1g0/9g", FROM_1);
        rooms("1a1g0;1f0", "t");
        rooms("1a1g0;1f0t", FROM_1);
        rooms(head + "0", SORTS + "x");
        for (int n = 0; n <= 44; n++) {
            due("g0" + n, Checks.page("1a1g0" + n + ";1f0t1;0a1").fault(0), 5);
            due("g0/1g0" + n, Checks.page("1a1g0/1g0" + n + ";1f0t1;0a1").fault(0), 8);
            due("f0" + n, Checks.page("1a1g0;1f0" + n + "t44;0a1").fault(0), 9);
            due("t0" + n, Checks.page("1a1g0;1f0t0" + n + ";0a1").fault(0), 10);
            due("comes 0" + n, Checks.page("1a1g0;1f0t1;0" + n + "a1").fault(0), 13);
        }
    }

    static void faultOfTold() {
        says("A TOLD is a text: for each WOMAN (1 to 3) with \";\" between digits 0 to 7 "
                + "(perhaps none; each at most once in all)");
        String rooms = "01234567";
        behind(1, "", rooms + ";");
        behind(1, ";", rooms + ";");
        behind(1, ";;", rooms);
        behind(1, rooms, ";");
        behind(1, "76543210;", ";");
        behind(1, "0123;4567;", "");
        behind(1, ";;01234567", "");
        behind(1, ";01234567", ";");
        for (char room : rooms.toCharArray()) {
            String others = rooms.replace("" + room, "");
            behind(1, "" + room, others + ";");
            behind(1, room + ";", others + ";");
            behind(1, room + ";;", others);
            behind(1, ";" + room, others + ";");
            behind(1, ";" + room + ";", others);
            behind(1, ";;" + room, others);
        }
        behind(1, "0;1;2", "34567");
        behind(1, "01;2", "34567;");
    }

    static void faultItself() {
        says("The place (from 0) of the first letter of THE PAGE that no HOUSE (sort 0), TOLD rule (1) has there, "
                + "behind those ahead of it; how many letters it has, if there is none. OUTSIDE.");
        due("of an empty page", new RoomsByThree().fault(0), 0);
        due("of an empty page", new RoomsByThree().fault(1), 0);
        for (int cut = 0; cut <= LONGEST.length(); cut++) {
            due("of the longest house, cut at " + cut, Checks.page(LONGEST.substring(0, cut)).fault(0), cut);
        }
        due("no house has its first letter", Checks.page("01;2").fault(0), 0);
        due("a told rule has all", Checks.page("01;2").fault(1), 4);
        due("a house is told rule up to", Checks.page("1a1g0").fault(1), 1);
        for (int sort : new int[] {-1, 2, 3, Checks.LEAST, Checks.MOST}) {
            RoomsByThree x = Checks.page("1a");
            due("fault(" + sort + ")", x.fault(sort), OUTSIDE);
            due("the page stays", x.fault(0), 2);
        }
        RoomsByThree x = Checks.with("1b1g0;2f0t9;0a1");
        long before = x.digest();
        Checks.put(x, "6d9g40;6f40t44;44xh9");
        due("fault(0) reads, and changes nothing", x.fault(0), 20);
        due("fault(1) neither", x.fault(1), 1);
        due("house of before", x.room(0, 0), 1);
        x.blank();
        due("all is as before", x.digest(), before);
    }

    // ---- numbers and counts that are read

    static int housed(RoomsByThree x, int what, int fact) {
        int read = x.house();
        return read != 1 ? read : what == 0 ? x.room(0, fact) : what == 1 ? x.woman(0, fact) : x.guest(0, fact);
    }

    static void numbers() {
        says("GONE (a QUARTER 0 to 40)");
        for (int n = 0; n <= 450; n++) {
            due("g" + n, housed(Checks.page("1a1g" + n + ";1f0t1;0a1"), 0, 3), n <= 40 ? n : STATE);
        }
        says("a later QUARTER (41 at most, greater than the first)");
        for (int first = 0; first <= 40; first++) {
            for (int n = 0; n <= 99; n++) {
                due("g" + first + "/5g" + n, housed(Checks.page("1a1g" + first + "/5g" + n + ";1f0t1;0a1"), 0, 4),
                        n > first && n <= 41 ? n : STATE);
            }
        }
        says("\"f\", FROM (0 to 40), \"t\", TO (44 at most, greater than FROM)");
        for (int n = 0; n <= 99; n++) {
            due("f" + n, housed(Checks.page("1a1g0;1f" + n + "t44;0a1"), 1, 1), n <= 40 ? n : STATE);
        }
        for (int from = 0; from <= 40; from++) {
            for (int n = 0; n <= 99; n++) {
                due("f" + from + "t" + n, housed(Checks.page("1a1g0;1f" + from + "t" + n + ";0a1"), 1, 2),
                        n > from && n <= 44 ? n : STATE);
            }
        }
        says("COMES (0 to 44)");
        for (int n = 0; n <= 450; n++) {
            due("comes " + n, housed(Checks.page("1a1g0;1f0t1;" + n + "a1"), 2, 0), n <= 44 ? n : STATE);
        }
        says("a FLOOR (1 to 6), a SORT (a to d), WORK (1 to 9; QUARTERS)");
        for (int n = 0; n <= 10; n++) {
            due("floor " + n, housed(Checks.page(n + "a1g0;1f0t1;0a1"), 0, 0), n >= 1 && n <= 6 ? n : STATE);
            due("work " + n, housed(Checks.page("1a" + n + "g0;1f0t1;0a1"), 0, 2), n >= 1 && n <= 9 ? n : STATE);
            due("tenths " + n, housed(Checks.page("1a1g0/" + n + "g1;1f0t1;0a1"), 0, 5),
                    n >= 1 && n <= 9 ? n : STATE);
            due("woman's floor " + n, housed(Checks.page("1a1g0;" + n + "f0t1;0a1"), 1, 0),
                    n >= 1 && n <= 6 ? n : STATE);
            due("weight " + n, housed(Checks.page("1a1g0;1f0t1;0a" + n), 2, 3), n >= 1 && n <= 9 ? n : STATE);
        }
        for (char sort = '`'; sort <= 'z'; sort++) {
            boolean fine = sort >= 'a' && sort <= 'd';
            due("sort " + sort, housed(Checks.page("1" + sort + "1g0;1f0t1;0a1"), 0, 1), fine ? sort - 'a' : STATE);
            due("wish " + sort, housed(Checks.page("1a1g0;1f0t1;0" + sort + "1"), 2, 1),
                    fine ? sort - 'a' : sort == 'x' ? NONE : STATE);
            due("wish " + sort + "h", housed(Checks.page("1a1g0;1f0t1;0" + sort + "h1"), 2, 2),
                    fine || sort == 'x' ? 1 : STATE);
        }
    }

    static void counts() {
        says("ROOMS (1 to 8)");
        for (int n = 0; n <= 10; n++) {
            RoomsByThree x = Checks.page(Checks.times(n, LESS, ",") + ";1f0t1;0a1");
            due(n + " rooms", x.house(), n >= 1 && n <= 8 ? n : STATE);
            due("count(0)", x.count(0), n >= 1 && n <= 8 ? n : 0);
        }
        says("WOMEN (1 to 3)");
        for (int n = 0; n <= 5; n++) {
            RoomsByThree x = Checks.page("1a1g0;" + Checks.times(n, "1f0t1", ",") + ";0a1");
            due(n + " women", x.house(), n >= 1 && n <= 3 ? 1 : STATE);
            due("count(1)", x.count(1), n >= 1 && n <= 3 ? n : 0);
        }
        says("GUESTS (1 to 8)");
        for (int n = 0; n <= 10; n++) {
            RoomsByThree x = Checks.page("1a1g0;1f0t1;" + Checks.times(n, "0a1", ","));
            due(n + " guests", x.house(), n >= 1 && n <= 8 ? 1 : STATE);
            due("count(2)", x.count(2), n >= 1 && n <= 8 ? n : 0);
        }
        says("three ROOMS at most");
        for (int n = 0; n <= 8; n++) {
            String text = Checks.times(n, CHANCE, ",") + (n == 0 || n == 8 ? "" : ",") + Checks.times(8 - n, LESS, ",");
            RoomsByThree x = Checks.page(text + ";1f0t1;0a1");
            due(n + " by chance", x.house(), n <= 3 ? 8 : STATE);
            due("count(5)", x.count(5), n <= 3 ? n : 0);
        }
    }

    // ---- the calls that read

    static void house() {
        says("THE PAGE is read as THE HOUSE");
        RoomsByThree x = Checks.page(LONGEST);
        due("letters of the longest", x.count(4), 142);
        due("house() of the longest", x.house(), 8);
        for (int r = 0; r < 8; r++) {
            int[] facts = {6, 3, 9, 40, r < 3 ? 41 : NONE, r < 3 ? 9 : NONE, NONE};
            for (int what = 0; what < 7; what++) {
                due("room(" + r + ", " + what + ")", x.room(r, what), facts[what]);
            }
        }
        for (int w = 0; w < 3; w++) {
            due("woman " + w, x.woman(w, 0) * 10000 + x.woman(w, 1) * 100 + x.woman(w, 2), 64044);
        }
        for (int g = 0; g < 8; g++) {
            due("guest " + g, x.guest(g, 0) * 100 + x.guest(g, 2) * 10 + x.guest(g, 3), 4419);
            due("its wish", x.guest(g, 1), NONE);
        }
        RoomsByThree least = Checks.page("1a1g0;1f0t1;0a1");
        due("house() of the shortest", least.house(), 1);
        due("its room", least.room(0, 0) + least.room(0, 1) + least.room(0, 2) + least.room(0, 3), 2);

        says("(another one is gone, and all that was LATE; RULES, THE LIFT stay): how many ROOMS; THE PAGE is empty then.");
        x.late(0, 0);
        x.late(7, 44);
        x.lift(6);
        x.rule(4, 0);
        Checks.told(x, "0;1;2");
        Checks.put(x, "1a1g0/3g5,2b2g1;3f0t9;7c2,8dh3");
        due("house() of two", x.house(), 2);
        int[] counts = {2, 1, 2, 2, 0, 1, 0, 0};
        for (int what = 0; what < 8; what++) {
            due("count(" + what + ")", x.count(what), counts[what]);
        }
        due("no third room", x.room(2, 0), Checks.UNKNOWN);
        due("no second woman", x.woman(1, 0), Checks.UNKNOWN);
        due("no third guest", x.guest(2, 0), Checks.UNKNOWN);
        due("room 0 is not late", x.room(0, 6), NONE);
        due("room 0 is told anew", x.room(0, 4) * 10 + x.room(0, 5), 53);
        due("room 1 is not by chance", x.room(1, 4) + x.room(1, 5), -2);
        due("a third way is no more", x.gone(0, 2), OUTSIDE);
        due("rules stay as they are", x.as(0, 4), 0);
        due("and the told one", x.as(1, 6), 1);
        due("the lift stays", x.lift(2), 6);
        Checks.put(x, "1a1g0/3g5,2b2g1;3f0t9;7c2,8dh3");
        x.late(1, 9);
        x.house();
        due("of the same text nothing is late, too", x.count(6), 0);

        says("STATE: it is none.");
        x.late(1, 9);
        for (String text : new String[] {"", "1", "1a1g0;1f0t1;", "1a1g0;1f0t1;0a", "1a1g0;1f0t1;0a1,", "1a1g0;1f0t1",
            "1a1g0", "1a1g0;1f0t1;0a1;", "1a1g0;1f0t1;0a1 ", " 1a1g0;1f0t1;0a1", "1a1g0;;0a1", ";1f0t1;0a1",
            "1a1g5/1g;1f0t1;0a1", "0;1"}) {
            x.blank();
            Checks.put(x, text);
            long before = x.digest();
            due("house() of '" + text + "'", x.house(), STATE);
            due("nothing changed", x.digest(), before);
            due("the page stays", x.count(4), text.length());
        }
    }

    static void tell() {
        says("THE PAGE is read as a TOLD rule: its number; THE PAGE is empty then.");
        RoomsByThree x = new RoomsByThree();
        String[] texts = {"0", ";", "01234567;;", ";;76543210", "7;6;5", "3;;2", ";1", "5;"};
        for (int i = 0; i < texts.length; i++) {
            due("tell() of '" + texts[i] + "'", Checks.told(x, texts[i]), i);
            due("count(4)", x.count(4), 0);
            due("count(3)", x.count(3), i + 1);
            due("it is TOLD", x.as(i, 6), i);
        }

        says("STATE: it is none (also: it is empty); FULL.");
        due("a ninth", Checks.told(x, "0"), FULL);
        due("the page stays", x.count(4), 1);
        due("eight rules", x.count(3), 8);
        Checks.put(x, "0");
        due("STATE ahead of FULL", x.tell(), STATE);
        due("the page stays", x.blank(), 2);
        due("of an empty one, too", x.tell(), STATE);
        for (String text : new String[] {"", "8", "00", "0;0", ";;;", "0,1", "a", "0 ", "1a1g0;1f0t1;0a1"}) {
            RoomsByThree y = Checks.put(new RoomsByThree(), text);
            long before = y.digest();
            due("tell() of '" + text + "'", y.tell(), STATE);
            due("nothing changed", y.digest(), before);
            due("no rule", y.count(3), 0);
        }
        RoomsByThree mixed = new RoomsByThree();
        for (int kind = 0; kind < 6; kind++) {
            mixed.rule(kind, 0);
        }
        due("behind six of other kinds", Checks.told(mixed, "0"), 6);
        due("then one of another", mixed.rule(0, 0), 7);
        due("then none is told", Checks.told(mixed, "0"), FULL);
        due("nor another", mixed.rule(0, 0), FULL);
        due("OUTSIDE ahead of FULL", mixed.rule(6, 0), OUTSIDE);
        due("OUTSIDE ahead of FULL", mixed.rule(0, 1), OUTSIDE);
        due("eight still", mixed.count(3), 8);
    }
}
