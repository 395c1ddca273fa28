import java.util.ArrayList;
import java.util.Arrays;
import java.util.Comparator;
import java.util.HashMap;
import java.util.HashSet;
import java.util.List;
import java.util.Map;
import java.util.Random;
import java.util.Set;
import java.util.regex.Matcher;
import java.util.regex.Pattern;

/**
 * Runs of calls that are drawn by fixed seeds, each answered by the class and by a model that is written
 * anew from the document in another way: texts by patterns, women quarter by quarter, all orders one by one.
 */
public final class ModelTest {
    static final int NONE = -1, UNKNOWN = -101, OUTSIDE = -102, STATE = -103, FULL = -104;

    static int wrong = 0;
    static int calls = 0;

    public static void main(String[] args) {
        long first = args.length > 0 ? Long.parseLong(args[0]) : 1;
        int runs = args.length > 1 ? Integer.parseInt(args[1]) : 400;
        for (long seed = first; seed < first + runs && wrong < 20; seed++) {
            new Play(seed).play(60 + (int) (seed % 5) * 60);
        }
        System.out.println(calls + " calls, " + wrong + " not as the model's");
        if (wrong != 0) {
            System.exit(1);
        }
    }

    // ---- a run of calls

    static final class Play {
        final Random random;
        final long seed;
        final RoomsByThree real = new RoomsByThree();
        final Model model = new Model();
        final List<String> told = new ArrayList<>();

        Play(long seed) {
            this.seed = seed;
            this.random = new Random(seed * 7919);
        }

        void play(int length) {
            for (int i = 0; i < length && wrong < 20; i++) {
                try {
                    step();
                } catch (RuntimeException e) {
                    wrong++;
                    System.out.println("seed " + seed + ": thrown " + e + " behind " + told);
                    return;
                }
            }
            check("digest()", real.digest(), model.digest());
        }

        void check(String call, long got, long due) {
            calls++;
            told.add(call + "=" + got);
            if (got != due) {
                wrong++;
                System.out.println("seed " + seed + ": " + call + " answered " + got + ", the model " + due
                        + ", behind " + told + " page '" + model.page + "' house '" + model.text + "'");
            }
        }

        int below(int bound) {
            return random.nextInt(bound);
        }

        /** Mostly a number from 0 to count - 1, at times one near it, or a wild one. */
        int pick(int count) {
            int roll = below(40);
            if (roll == 0) {
                return -1;
            }
            if (roll == 1) {
                return count;
            }
            if (roll == 2) {
                return new int[] {Integer.MIN_VALUE, Integer.MAX_VALUE, 32, -2, 1000}[below(5)];
            }
            return count > 0 ? below(count) : below(9) - 1;
        }

        void put(String text) {
            for (int i = 0; i < text.length(); i += 8) {
                long w = 0;
                for (int k = Math.min(text.length(), i + 8) - 1; k >= i; k--) {
                    w = w << 8 | text.charAt(k);
                }
                check("letters('" + text + "', " + i + ")", real.letters(w), model.letters(w));
            }
        }

        String drawHouse() {
            StringBuilder s = new StringBuilder();
            int rooms = below(8) == 0 ? 7 + below(2) : 1 + below(6);
            rooms += below(60) == 0 ? 3 : 0;
            int mostChances = below(40) == 0 ? 4 : 3;
            int chances = 0;
            for (int r = 0; r < rooms; r++) {
                int gone = below(5) == 0 ? below(41) : below(20);
                s.append(r > 0 ? "," : "").append(1 + below(6)).append("abcd".charAt(below(2 + below(3))));
                s.append(1 + below(9)).append('g').append(gone);
                if (chances < mostChances && below(3) == 0) {
                    chances++;
                    s.append('/').append(1 + below(9)).append('g').append(gone + 1 + below(41 - gone));
                }
            }
            int women = below(40) == 0 ? 4 : 1 + below(3);
            for (int w = 0; w < women; w++) {
                int from = below(3) == 0 ? below(41) : below(10);
                int to = below(2) == 0 ? 44 : from + 1 + below(44 - from);
                s.append(w > 0 ? "," : ";").append(1 + below(6)).append('f').append(from).append('t').append(to);
            }
            int guests = below(30) == 0 ? 9 : 1 + below(8);
            // Guests who come late, or weigh the same, may be given rooms in many ways of like cost.
            int earliest = below(4) == 0 ? 40 : 0;
            int weights = below(3) == 0 ? 1 : 9;
            for (int g = 0; g < guests; g++) {
                s.append(g > 0 ? "," : ";");
                s.append(below(6) == 0 ? 40 + below(5) : earliest + below(earliest > 0 ? 5 : 30));
                s.append("abcdxx".charAt(below(6))).append(below(4) == 0 ? "h" : "").append(1 + below(weights));
            }
            return s.toString();
        }

        String drawTold() {
            List<Integer> digits = new ArrayList<>(Arrays.asList(0, 1, 2, 3, 4, 5, 6, 7));
            StringBuilder s = new StringBuilder();
            int women = 1 + below(3);
            for (int w = 0; w < women; w++) {
                s.append(w > 0 ? ";" : "");
                for (int k = below(4); k > 0 && !digits.isEmpty(); k--) {
                    s.append(digits.remove(below(digits.size())));
                }
            }
            return s.toString();
        }

        /** A letter is changed, left out or put in, or the end is cut. */
        String spoil(String text) {
            if (text.isEmpty()) {
                return ";";
            }
            String signs = "0123456789abcdxghft/,; 4";
            char sign = signs.charAt(below(signs.length()));
            int at = below(text.length());
            switch (below(4)) {
                case 0:
                    return text.substring(0, at) + sign + text.substring(at + 1);
                case 1:
                    return text.substring(0, at) + text.substring(at + 1);
                case 2:
                    return text.substring(0, at) + sign + text.substring(at);
                default:
                    return text.substring(0, at);
            }
        }

        void step() {
            boolean young = model.rooms.isEmpty() || model.rules.isEmpty();
            int roll = below(young ? 40 : 100);
            if (roll < 12) {
                readSomething();
            } else if (roll < 20) {
                int kind = pick(6);
                int n = below(3) == 0 ? pick(2) : kind == 5 ? below(2) : 0;
                check("rule(" + kind + "," + n + ")", real.rule(kind, n), model.rule(kind, n));
            } else if (roll < 32) {
                change();
            } else if (roll < 40) {
                look();
            } else if (roll < 90) {
                day();
            } else {
                six();
            }
        }

        void readSomething() {
            if (below(4) != 0) {
                check("blank()", real.blank(), model.blank());
            }
            boolean house = model.rooms.isEmpty() || below(3) == 0;
            String text = house ? drawHouse() : drawTold();
            for (int i = below(4) == 0 ? 1 + below(2) : 0; i > 0; i--) {
                text = spoil(text);
            }
            put(text);
            int sort = below(12) == 0 ? pick(2) : house ? 0 : 1;
            check("fault(" + sort + ")", real.fault(sort), model.fault(sort));
            if (house) {
                check("house()", real.house(), model.house());
            } else {
                check("tell()", real.tell(), model.tell());
            }
            if (below(6) == 0) {
                long w = random.nextLong() & (below(2) == 0 ? 0x7e7e7e7e7eL : -1L);
                check("letters(" + w + ")", real.letters(w), model.letters(w));
            }
        }

        void change() {
            int room = pick(model.rooms.size());
            switch (below(5)) {
                case 0:
                    int floors = below(10) == 0 ? pick(7) : 1 + below(6);
                    check("lift(" + floors + ")", real.lift(floors), model.lift(floors));
                    break;
                case 1:
                    check("image()", real.image(), model.image());
                    break;
                case 2:
                    check("restore()", real.restore(), model.restore());
                    break;
                default:
                    int quarter = below(3) == 0 ? NONE : pick(45);
                    check("late(" + room + "," + quarter + ")", real.late(room, quarter), model.late(room, quarter));
            }
        }

        void look() {
            int what = pick(8);
            int i = pick(8);
            check("room(" + i + "," + what + ")", real.room(i, what), model.room(i, what));
            check("woman(" + i + "," + what + ")", real.woman(i, what), model.woman(i, what));
            check("guest(" + i + "," + what + ")", real.guest(i, what), model.guest(i, what));
            check("as(" + i + "," + what + ")", real.as(i, what), model.as(i, what));
            check("count(" + what + ")", real.count(what), model.count(what));
        }

        void day() {
            int rule = pick(model.rules.size());
            int way = pick(1 << model.chanceRooms().size());
            int room = pick(model.rooms.size());
            int guest = pick(model.guests.size());
            int giving = pick(2);
            int part = pick(2);
            int what = pick(3);
            String head = rule + "," + way + ",";
            switch (below(9)) {
                case 0:
                    check("gone(" + room + "," + way + ")", real.gone(room, way), model.gone(room, way));
                    break;
                case 1:
                    check("done(" + head + room + "," + what + ")", real.done(rule, way, room, what),
                            model.done(rule, way, room, what));
                    break;
                case 2:
                    check("given(" + head + giving + "," + guest + "," + what + ")",
                            real.given(rule, way, giving, guest, what), model.given(rule, way, giving, guest, what));
                    break;
                case 3:
                    check("cost(" + head + giving + ")", real.cost(rule, way, giving), model.cost(rule, way, giving));
                    break;
                case 4:
                    check("mean(" + rule + "," + giving + "," + part + ")", real.mean(rule, giving, part),
                            model.mean(rule, giving, part));
                    break;
                case 5:
                    check("worst(" + rule + "," + giving + "," + part + ")", real.worst(rule, giving, part),
                            model.worst(rule, giving, part));
                    break;
                case 6:
                    int quarters = pick(45);
                    check("sure(" + rule + "," + giving + "," + guest + "," + quarters + "," + part + ")",
                            real.sure(rule, giving, guest, quarters, part),
                            model.sure(rule, giving, guest, quarters, part));
                    break;
                case 7:
                    int tenths = pick(11);
                    check("tells(" + rule + "," + giving + "," + guest + "," + tenths + ")",
                            real.tells(rule, giving, guest, tenths), model.tells(rule, giving, guest, tenths));
                    break;
                default:
                    int seed = below(20) == 0 ? pick(1) : random.nextInt() & Integer.MAX_VALUE;
                    check("run(" + rule + "," + giving + "," + seed + "," + what + ")",
                            real.run(rule, giving, seed, what), model.run(rule, giving, seed, what));
            }
        }

        void six() {
            int rule = pick(model.rules.size());
            int room = pick(model.rooms.size());
            int giving = pick(2);
            int part = pick(2);
            switch (below(7)) {
                case 0:
                    int i = pick(6);
                    check("best(" + giving + "," + i + ")", real.best(giving, i), model.best(giving, i));
                    break;
                case 1:
                    check("call(" + giving + "," + room + "," + part + ")", real.call(giving, room, part),
                            model.call(giving, room, part));
                    break;
                case 2:
                    check("called(" + giving + ")", real.called(giving), model.called(giving));
                    break;
                case 3:
                    check("missed(" + rule + "," + giving + ")", real.missed(rule, giving),
                            model.missed(rule, giving));
                    break;
                case 4:
                    check("more(" + rule + "," + giving + "," + part + ")", real.more(rule, giving, part),
                            model.more(rule, giving, part));
                    break;
                case 5:
                    check("which(" + giving + ")", real.which(giving), model.which(giving));
                    break;
                default:
                    check("digest()", real.digest(), model.digest());
            }
        }
    }

    // ---- the model

    static final class Room {
        int floor;
        int sort;
        int work;
        int first;
        int later = NONE;
        int tenths = NONE;
        int late = NONE;

        int[] facts() {
            return new int[] {floor, sort, work, first, later, tenths, late};
        }
    }

    record Woman(int floor, int from, int to) {
        int[] facts() {
            return new int[] {floor, from, to};
        }
    }

    record Guest(int comes, int sort, int high, int weight) {
        int[] facts() {
            return new int[] {comes, sort, high, weight};
        }

        boolean likes(Room room) {
            return (sort == NONE || sort == room.sort) && (high == 0 || room.floor >= 4);
        }
    }

    record Rule(int kind, int n, List<String> lists) {
    }

    /** Whose each room is, when it is begun, when ready; NONE of those not done. */
    static final class Day {
        final int[] who = new int[8];
        final int[] begun = new int[8];
        final int[] ready = new int[8];

        Day() {
            Arrays.fill(who, NONE);
            Arrays.fill(begun, NONE);
            Arrays.fill(ready, NONE);
        }
    }

    static final class Model {
        static final Pattern ROOM = Pattern.compile(
                "([1-6])([a-d])([1-9])g(0|[1-9][0-9]?)(?:/([1-9])g(0|[1-9][0-9]?))?");
        static final Pattern WOMAN = Pattern.compile("([1-6])f(0|[1-9][0-9]?)t(0|[1-9][0-9]?)");
        static final Pattern GUEST = Pattern.compile("(0|[1-9][0-9]?)([a-dx])(h?)([1-9])");

        String page = "";
        String text = "";
        List<Room> rooms = new ArrayList<>();
        List<Woman> women = new ArrayList<>();
        List<Guest> guests = new ArrayList<>();
        List<Rule> rules = new ArrayList<>();
        int lift = 2;
        int[] imageLate;
        int imageLift;
        int asked;
        /** Who is at work: null stands for one who is not there. */
        List<Woman> crew = new ArrayList<>();
        final Map<String, List<Integer>> bestKnown = new HashMap<>();
        final Map<String, Integer> sumKnown = new HashMap<>();

        // ---- texts

        int letters(long w) {
            StringBuilder fresh = new StringBuilder();
            boolean ended = false;
            for (int i = 0; i < 8; i++) {
                int code = (int) (w >> 8 * i & 0xff);
                if (code > 126 || ended && code != 0) {
                    return OUTSIDE;
                }
                ended |= code == 0;
                if (code != 0) {
                    fresh.append((char) code);
                }
            }
            if (page.length() + fresh.length() > 160) {
                return FULL;
            }
            page += fresh;
            return page.length();
        }

        int blank() {
            int had = page.length();
            page = "";
            return had;
        }

        int fault(int sort) {
            if (sort < 0 || sort > 1) {
                return OUTSIDE;
            }
            for (int i = 0; i < page.length(); i++) {
                String head = page.substring(0, i + 1);
                if (sort == 0 ? !beginsHouse(head) : !isTold(head)) {
                    return i;
                }
            }
            return page.length();
        }

        /** Whether one of many ends makes a house of it. */
        static boolean beginsHouse(String head) {
            List<String> ends = new ArrayList<>();
            for (String end : new String[] {"", "1a1g0", "a1g0", "1g0", "g0", "1g41", "g41", "0", "1", "2", "3", "4",
                "5", "6", "7", "8", "9", "41"}) {
                ends.add(end + ";1f0t1;0a1");
            }
            for (String end : new String[] {"", "1f0t44", "f0t44", "0t44", "t44", "44", "0", "1", "2", "3", "4", "5",
                "6", "7", "8", "9"}) {
                ends.add(end + ";0a1");
            }
            ends.addAll(Arrays.asList("", "0a1", "a1", "1"));
            for (String end : ends) {
                if (new Model().readHouse(head + end)) {
                    return true;
                }
            }
            return false;
        }

        boolean readHouse(String s) {
            String[] parts = s.split(";", -1);
            if (parts.length != 3) {
                return false;
            }
            List<Room> newRooms = new ArrayList<>();
            List<Woman> newWomen = new ArrayList<>();
            List<Guest> newGuests = new ArrayList<>();
            int chances = 0;
            for (String part : parts[0].split(",", -1)) {
                Matcher m = ROOM.matcher(part);
                if (!m.matches()) {
                    return false;
                }
                Room room = new Room();
                room.floor = Integer.parseInt(m.group(1));
                room.sort = m.group(2).charAt(0) - 'a';
                room.work = Integer.parseInt(m.group(3));
                room.first = Integer.parseInt(m.group(4));
                if (m.group(5) != null) {
                    chances++;
                    room.tenths = Integer.parseInt(m.group(5));
                    room.later = Integer.parseInt(m.group(6));
                    if (room.later <= room.first || room.later > 41) {
                        return false;
                    }
                }
                if (room.first > 40) {
                    return false;
                }
                newRooms.add(room);
            }
            for (String part : parts[1].split(",", -1)) {
                Matcher m = WOMAN.matcher(part);
                if (!m.matches()) {
                    return false;
                }
                Woman woman = new Woman(Integer.parseInt(m.group(1)), Integer.parseInt(m.group(2)),
                        Integer.parseInt(m.group(3)));
                if (woman.from > 40 || woman.to > 44 || woman.to <= woman.from) {
                    return false;
                }
                newWomen.add(woman);
            }
            for (String part : parts[2].split(",", -1)) {
                Matcher m = GUEST.matcher(part);
                if (!m.matches()) {
                    return false;
                }
                int comes = Integer.parseInt(m.group(1));
                if (comes > 44) {
                    return false;
                }
                int sort = m.group(2).equals("x") ? NONE : m.group(2).charAt(0) - 'a';
                newGuests.add(new Guest(comes, sort, m.group(3).length(), Integer.parseInt(m.group(4))));
            }
            if (newRooms.size() > 8 || newWomen.size() > 3 || newGuests.size() > 8 || chances > 3) {
                return false;
            }
            rooms = newRooms;
            women = newWomen;
            guests = newGuests;
            crew = new ArrayList<>(women);
            text = s;
            return true;
        }

        static boolean isTold(String s) {
            Set<Character> seen = new HashSet<>();
            for (char c : s.replace(";", "").toCharArray()) {
                if (!seen.add(c)) {
                    return false;
                }
            }
            return s.matches("[0-7]*(;[0-7]*){0,2}");
        }

        int house() {
            if (!readHouse(page)) {
                return STATE;
            }
            page = "";
            imageLate = null;
            return rooms.size();
        }

        int tell() {
            if (page.isEmpty() || !isTold(page)) {
                return STATE;
            }
            if (rules.size() == 8) {
                return FULL;
            }
            rules.add(new Rule(6, 0, Arrays.asList(page.split(";", -1))));
            page = "";
            return rules.size() - 1;
        }

        int rule(int kind, int n) {
            boolean fine = kind >= 0 && kind <= 4 && n == 0 || kind == 5 && (n == 0 || n == 1);
            if (!fine) {
                return OUTSIDE;
            }
            if (rules.size() == 8) {
                return FULL;
            }
            rules.add(new Rule(kind, n, new ArrayList<>()));
            return rules.size() - 1;
        }

        int as(int rule, int kind) {
            if (!names(rule, rules)) {
                return UNKNOWN;
            }
            if (kind < 0 || kind > 6) {
                return OUTSIDE;
            }
            int own = rules.get(rule).kind;
            boolean such = kind == own || kind == 0 || kind == 2 && (own == 3 || own == 4);
            return such ? rule : NONE;
        }

        // ---- what is told

        static boolean names(int i, List<?> list) {
            return i >= 0 && i < list.size();
        }

        static int fact(int[] facts, int what) {
            return what >= 0 && what < facts.length ? facts[what] : OUTSIDE;
        }

        int room(int i, int what) {
            return names(i, rooms) ? fact(rooms.get(i).facts(), what) : UNKNOWN;
        }

        int woman(int i, int what) {
            return names(i, women) ? fact(women.get(i).facts(), what) : UNKNOWN;
        }

        int guest(int i, int what) {
            return names(i, guests) ? fact(guests.get(i).facts(), what) : UNKNOWN;
        }

        int late(int i, int quarter) {
            if (!names(i, rooms)) {
                return UNKNOWN;
            }
            if (quarter < -1 || quarter > 44) {
                return OUTSIDE;
            }
            int was = rooms.get(i).late;
            rooms.get(i).late = quarter;
            return was;
        }

        int lift(int floors) {
            if (floors < 1 || floors > 6) {
                return OUTSIDE;
            }
            int was = lift;
            lift = floors;
            return was;
        }

        // ---- a day

        List<Integer> chanceRooms() {
            List<Integer> list = new ArrayList<>();
            for (int r = 0; r < rooms.size(); r++) {
                if (rooms.get(r).tenths != NONE) {
                    list.add(r);
                }
            }
            return list;
        }

        int ways() {
            return 1 << chanceRooms().size();
        }

        int whole() {
            return (int) Math.round(Math.pow(10, chanceRooms().size()));
        }

        /** Of whole(). A room that is late keeps its tenths here: both values of its bit cost the same. */
        int chance(int way) {
            int product = 1;
            List<Integer> list = chanceRooms();
            for (int i = 0; i < list.size(); i++) {
                int tenths = rooms.get(list.get(i)).tenths;
                product *= (way >> i) % 2 == 0 ? tenths : 10 - tenths;
            }
            return product;
        }

        int goneAt(int r, int way) {
            Room room = rooms.get(r);
            if (room.late != NONE) {
                return room.late;
            }
            int bit = chanceRooms().indexOf(r);
            return bit >= 0 && (way >> bit) % 2 == 1 ? room.later : room.first;
        }

        int away(int from, int to) {
            int floors = Math.abs(from - to);
            int quarters = 0;
            while (floors > 0) {
                floors -= lift;
                quarters++;
            }
            return quarters;
        }

        /** Time and floor of each woman, as she is free. */
        static final class Hands {
            final int[] time = new int[4];
            final int[] floor = new int[4];
        }

        Hands hands() {
            Hands hands = new Hands();
            for (int w = 0; w < crew.size(); w++) {
                if (crew.get(w) != null) {
                    hands.time[w] = crew.get(w).from;
                    hands.floor[w] = crew.get(w).floor;
                }
            }
            return hands;
        }

        int begins(Hands hands, int w, int r, int way) {
            return Math.max(goneAt(r, way), hands.time[w] + away(hands.floor[w], rooms.get(r).floor));
        }

        boolean may(Hands hands, int w, int r, int way) {
            return w < crew.size() && crew.get(w) != null
                    && begins(hands, w, r, way) + rooms.get(r).work <= crew.get(w).to;
        }

        void does(Day day, Hands hands, int w, int r, int way) {
            day.who[r] = w;
            day.begun[r] = begins(hands, w, r, way);
            day.ready[r] = day.begun[r] + rooms.get(r).work;
            hands.time[w] = day.ready[r];
            hands.floor[w] = rooms.get(r).floor;
        }

        Day byList(List<Integer> order, int way) {
            Day day = new Day();
            Hands hands = hands();
            for (int r : order) {
                int chosen = NONE;
                for (int w = crew.size() - 1; w >= 0; w--) {
                    if (may(hands, w, r, way)
                            && (chosen == NONE || begins(hands, w, r, way) <= begins(hands, chosen, r, way))) {
                        chosen = w;
                    }
                }
                if (chosen != NONE) {
                    does(day, hands, chosen, r, way);
                }
            }
            return day;
        }

        Day byFloors(int way) {
            Day day = new Day();
            Hands hands = hands();
            for (int w = 0; w < crew.size(); w++) {
                List<Integer> hers = new ArrayList<>();
                for (int r = 0; r < rooms.size(); r++) {
                    if (ownerByFloor(rooms.get(r).floor) == w) {
                        hers.add(r);
                    }
                }
                hers.sort(Comparator.comparingInt(r -> goneAt(r, way)));
                for (int r : hers) {
                    if (may(hands, w, r, way)) {
                        does(day, hands, w, r, way);
                    }
                }
            }
            return day;
        }

        int ownerByFloor(int floor) {
            for (int away = 0; away < 6; away++) {
                for (int w = 0; w < crew.size(); w++) {
                    if (crew.get(w) != null && Math.abs(crew.get(w).floor - floor) == away) {
                        return w;
                    }
                }
            }
            return NONE;
        }

        int firstGuest(int r) {
            int first = 99;
            for (Guest guest : guests) {
                if (guest.likes(rooms.get(r)) && guest.comes < first) {
                    first = guest.comes;
                }
            }
            return first;
        }

        /** Quarter by quarter: each who is free then, in order, takes what she may. */
        Day byFree(int kind, int way) {
            Day day = new Day();
            Hands hands = hands();
            for (int now = 0; now <= 44; now++) {
                for (int w = 0; w < crew.size(); w++) {
                    if (crew.get(w) == null || hands.time[w] > now) {
                        continue;
                    }
                    hands.time[w] = now;
                    int floor = hands.floor[w];
                    List<Integer> open = new ArrayList<>();
                    for (int r = 0; r < rooms.size(); r++) {
                        if (day.who[r] == NONE && goneAt(r, way) <= now && may(hands, w, r, way)) {
                            open.add(r);
                        }
                    }
                    Comparator<Integer> nearest = Comparator.comparingInt(r -> Math.abs(rooms.get(r).floor - floor));
                    Comparator<Integer> order = kind == 3
                            ? Comparator.<Integer>comparingInt(r -> rooms.get(r).work).thenComparing(nearest)
                            : kind == 4 ? Comparator.<Integer>comparingInt(this::firstGuest).thenComparing(nearest)
                            : nearest;
                    open.sort(order);
                    if (!open.isEmpty()) {
                        does(day, hands, w, open.get(0), way);
                    }
                }
            }
            return day;
        }

        Day byTold(Rule rule, int way) {
            Day day = new Day();
            Hands hands = hands();
            for (int w = 0; w < rule.lists.size(); w++) {
                for (char c : rule.lists.get(w).toCharArray()) {
                    int r = c - '0';
                    if (r < rooms.size() && may(hands, w, r, way)) {
                        does(day, hands, w, r, way);
                    }
                }
            }
            return day;
        }

        List<Integer> plainOrder() {
            List<Integer> order = new ArrayList<>();
            for (int r = 0; r < rooms.size(); r++) {
                order.add(r);
            }
            return order;
        }

        Day dayOf(Rule rule, int way) {
            switch (rule.kind) {
                case 1:
                    return byFloors(way);
                case 2:
                case 3:
                case 4:
                    return byFree(rule.kind, way);
                case 5:
                    return byList(rooms.size() > 6 ? plainOrder() : bestOrder(rule.n), way);
                case 6:
                    return byTold(rule, way);
                default:
                    return byList(plainOrder(), way);
            }
        }

        // ---- keys

        int waits(int g, int r, Day day) {
            int until = r == NONE ? 44 : day.ready[r];
            return until < guests.get(g).comes ? 0 : until - guests.get(g).comes;
        }

        int[] keys(Day day, int giving) {
            return giving == 0 ? keysAsTheyCome(day) : keysWise(day);
        }

        int[] keysAsTheyCome(Day day) {
            int[] keys = new int[guests.size()];
            List<Integer> line = new ArrayList<>();
            for (int g = 0; g < guests.size(); g++) {
                line.add(g);
            }
            line.sort(Comparator.comparingInt(g -> guests.get(g).comes));
            Set<Integer> away = new HashSet<>();
            for (int g : line) {
                keys[g] = NONE;
                for (int r = rooms.size() - 1; r >= 0; r--) {
                    if (!away.contains(r) && day.ready[r] != NONE && guests.get(g).likes(rooms.get(r))
                            && (keys[g] == NONE || waits(g, r, day) <= waits(g, keys[g], day))) {
                        keys[g] = r;
                    }
                }
                away.add(keys[g]);
            }
            return keys;
        }

        /** What the guests from g on cost at least with the rooms of mask taken: then guest by guest the least room. */
        int[] keysWise(Day day) {
            int all = 1 << rooms.size();
            int[][] least = new int[guests.size() + 1][all];
            for (int g = guests.size() - 1; g >= 0; g--) {
                for (int mask = 0; mask < all; mask++) {
                    int best = costOf(g, NONE, day) + least[g + 1][mask];
                    for (int r = 0; r < rooms.size(); r++) {
                        if (canTake(g, r, mask, day)) {
                            best = Math.min(best, costOf(g, r, day) + least[g + 1][mask | 1 << r]);
                        }
                    }
                    least[g][mask] = best;
                }
            }
            int[] keys = new int[guests.size()];
            int mask = 0;
            for (int g = 0; g < guests.size(); g++) {
                keys[g] = NONE;
                for (int r = 0; r < rooms.size() && keys[g] == NONE; r++) {
                    if (canTake(g, r, mask, day)
                            && costOf(g, r, day) + least[g + 1][mask | 1 << r] == least[g][mask]) {
                        keys[g] = r;
                    }
                }
                mask |= keys[g] == NONE ? 0 : 1 << keys[g];
            }
            return keys;
        }

        boolean canTake(int g, int r, int mask, Day day) {
            return (mask >> r) % 2 == 0 && day.ready[r] != NONE && guests.get(g).likes(rooms.get(r));
        }

        int costOf(int g, int r, Day day) {
            return waits(g, r, day) * guests.get(g).weight;
        }

        int total(Day day, int giving) {
            int[] keys = keys(day, giving);
            int sum = 0;
            for (int g = 0; g < guests.size(); g++) {
                sum += costOf(g, keys[g], day);
            }
            return sum;
        }

        // ---- orders

        String situation() {
            StringBuilder s = new StringBuilder(text).append('|').append(lift).append('|').append(crew).append('|');
            for (Room room : rooms) {
                s.append(room.late).append(',');
            }
            return s.toString();
        }

        void allOrders(List<Integer> head, List<List<Integer>> into) {
            if (head.size() == rooms.size()) {
                into.add(new ArrayList<>(head));
                return;
            }
            for (int r = 0; r < rooms.size(); r++) {
                if (!head.contains(r)) {
                    head.add(r);
                    allOrders(head, into);
                    head.remove(head.size() - 1);
                }
            }
        }

        /** The sum over the ways whose bit is as told (bit NONE: all), of the best order for these. */
        int leastSum(int giving, int bit, int value, List<Integer> bestInto) {
            String key = situation() + "|" + giving + "|" + bit + "|" + value;
            if (bestKnown.containsKey(key)) {
                bestInto.addAll(bestKnown.get(key));
                return sumKnown.get(key);
            }
            List<List<Integer>> orders = new ArrayList<>();
            allOrders(new ArrayList<>(), orders);
            int least = Integer.MAX_VALUE;
            for (List<Integer> order : orders) {
                int sum = 0;
                for (int way = 0; way < ways() && sum < least; way++) {
                    if (bit == NONE || (way >> bit) % 2 == value) {
                        sum += chance(way) * total(byList(order, way), giving);
                    }
                }
                if (sum < least) {
                    least = sum;
                    bestInto.clear();
                    bestInto.addAll(order);
                }
            }
            bestKnown.put(key, new ArrayList<>(bestInto));
            sumKnown.put(key, least);
            return least;
        }

        List<Integer> bestOrder(int giving) {
            List<Integer> order = new ArrayList<>();
            leastSum(giving, NONE, 0, order);
            return order;
        }

        int sum(Rule rule, int giving) {
            int sum = 0;
            for (int way = 0; way < ways(); way++) {
                sum += chance(way) * total(dayOf(rule, way), giving);
            }
            return sum;
        }

        int term(int above, int part) {
            int below = whole();
            for (int d : new int[] {2, 5}) {
                while (above % d == 0 && below % d == 0) {
                    above /= d;
                    below /= d;
                }
            }
            return part == 0 ? above : below;
        }

        static boolean bit(int i) {
            return i == 0 || i == 1;
        }

        boolean isWay(int way) {
            return way >= 0 && way < ways();
        }

        int gone(int room, int way) {
            return !names(room, rooms) ? UNKNOWN : !isWay(way) ? OUTSIDE : goneAt(room, way);
        }

        int done(int rule, int way, int room, int what) {
            if (!names(rule, rules)) {
                return UNKNOWN;
            }
            if (rooms.isEmpty()) {
                return STATE;
            }
            if (!names(room, rooms)) {
                return UNKNOWN;
            }
            if (!isWay(way) || what < 0 || what > 2) {
                return OUTSIDE;
            }
            Day day = dayOf(rules.get(rule), way);
            return new int[] {day.who[room], day.begun[room], day.ready[room]}[what];
        }

        int given(int rule, int way, int giving, int guest, int what) {
            if (!names(rule, rules)) {
                return UNKNOWN;
            }
            if (rooms.isEmpty()) {
                return STATE;
            }
            if (!names(guest, guests)) {
                return UNKNOWN;
            }
            if (!isWay(way) || !bit(giving) || what < 0 || what > 2) {
                return OUTSIDE;
            }
            Day day = dayOf(rules.get(rule), way);
            int key = keys(day, giving)[guest];
            return new int[] {key, waits(guest, key, day), costOf(guest, key, day)}[what];
        }

        int cost(int rule, int way, int giving) {
            if (!names(rule, rules)) {
                return UNKNOWN;
            }
            if (rooms.isEmpty()) {
                return STATE;
            }
            return isWay(way) && bit(giving) ? total(dayOf(rules.get(rule), way), giving) : OUTSIDE;
        }

        int mean(int rule, int giving, int part) {
            if (!names(rule, rules)) {
                return UNKNOWN;
            }
            if (rooms.isEmpty()) {
                return STATE;
            }
            return bit(giving) && bit(part) ? term(sum(rules.get(rule), giving), part) : OUTSIDE;
        }

        int worst(int rule, int giving, int what) {
            if (!names(rule, rules)) {
                return UNKNOWN;
            }
            if (rooms.isEmpty()) {
                return STATE;
            }
            if (!bit(giving) || !bit(what)) {
                return OUTSIDE;
            }
            int worst = 0;
            for (int way = 1; way < ways(); way++) {
                if (cost(rule, way, giving) > cost(rule, worst, giving)) {
                    worst = way;
                }
            }
            return what == 0 ? worst : cost(rule, worst, giving);
        }

        int chanceOfWait(int rule, int giving, int guest, int quarters) {
            int sum = 0;
            for (int way = 0; way < ways(); way++) {
                sum += given(rule, way, giving, guest, 1) <= quarters ? chance(way) : 0;
            }
            return sum;
        }

        int sure(int rule, int giving, int guest, int quarters, int part) {
            if (!names(rule, rules)) {
                return UNKNOWN;
            }
            if (rooms.isEmpty()) {
                return STATE;
            }
            if (!names(guest, guests)) {
                return UNKNOWN;
            }
            if (!bit(giving) || quarters < 0 || quarters > 44 || !bit(part)) {
                return OUTSIDE;
            }
            return term(chanceOfWait(rule, giving, guest, quarters), part);
        }

        int tells(int rule, int giving, int guest, int tenths) {
            if (!names(rule, rules)) {
                return UNKNOWN;
            }
            if (rooms.isEmpty()) {
                return STATE;
            }
            if (!names(guest, guests)) {
                return UNKNOWN;
            }
            if (!bit(giving) || tenths < 1 || tenths > 10) {
                return OUTSIDE;
            }
            int least = 44;
            for (int way = 0; way < ways(); way++) {
                int wait = given(rule, way, giving, guest, 1);
                if (wait < least && 10 * chanceOfWait(rule, giving, guest, wait) >= tenths * whole()) {
                    least = wait;
                }
            }
            return least;
        }

        int run(int rule, int giving, int seed, int what) {
            if (!names(rule, rules)) {
                return UNKNOWN;
            }
            if (rooms.isEmpty()) {
                return STATE;
            }
            if (!bit(giving) || seed < 0 || what < 0 || what > 2) {
                return OUTSIDE;
            }
            int next = seed;
            int way = 0;
            List<Integer> list = chanceRooms();
            for (int i = 0; i < list.size(); i++) {
                Room room = rooms.get(list.get(i));
                if (room.late == NONE) {
                    next = next * 1103515245 + 12345 & 0x7fffffff;
                    way += (next >> 16) % 10 < room.tenths ? 0 : 1 << i;
                }
            }
            return what == 0 ? way : what == 1 ? cost(rule, way, giving) : next;
        }

        // ---- what else could be

        int best(int giving, int i) {
            if (rooms.isEmpty()) {
                return STATE;
            }
            if (!bit(giving) || i < 0 || i > 5) {
                return OUTSIDE;
            }
            if (rooms.size() > 6 || asked == 16) {
                return STATE;
            }
            asked++;
            return i < rooms.size() ? bestOrder(giving).get(i) : NONE;
        }

        int worth(int giving, int room) {
            int bit = chanceRooms().indexOf(room);
            return leastSum(giving, NONE, 0, new ArrayList<>()) - leastSum(giving, bit, 0, new ArrayList<>())
                    - leastSum(giving, bit, 1, new ArrayList<>());
        }

        boolean callable(int room) {
            return rooms.get(room).tenths != NONE && rooms.get(room).late == NONE;
        }

        int call(int giving, int room, int part) {
            if (!names(room, rooms) || !callable(room)) {
                return UNKNOWN;
            }
            if (!bit(giving) || !bit(part)) {
                return OUTSIDE;
            }
            if (rooms.size() > 6 || asked == 16) {
                return STATE;
            }
            asked++;
            return term(worth(giving, room), part);
        }

        int called(int giving) {
            if (rooms.isEmpty()) {
                return STATE;
            }
            if (!bit(giving)) {
                return OUTSIDE;
            }
            if (rooms.size() > 6 || asked == 16) {
                return STATE;
            }
            asked++;
            int called = NONE;
            for (int r = 0; r < rooms.size(); r++) {
                if (callable(r) && (called == NONE || worth(giving, r) > worth(giving, called))) {
                    called = r;
                }
            }
            return called;
        }

        int missed(int rule, int giving) {
            if (!names(rule, rules)) {
                return UNKNOWN;
            }
            if (rooms.isEmpty()) {
                return STATE;
            }
            if (!bit(giving)) {
                return OUTSIDE;
            }
            if (asked == 16) {
                return STATE;
            }
            asked++;
            int[] without = new int[women.size()];
            int missed = 0;
            for (int w = 0; w < women.size(); w++) {
                crew.set(w, null);
                without[w] = sum(rules.get(rule), giving);
                crew.set(w, women.get(w));
                missed = without[w] > without[missed] ? w : missed;
            }
            return missed;
        }

        int more(int rule, int giving, int part) {
            if (!names(rule, rules)) {
                return -10000001;
            }
            if (rooms.isEmpty()) {
                return -10000003;
            }
            if (!bit(giving) || !bit(part)) {
                return -10000002;
            }
            if (asked == 16) {
                return -10000003;
            }
            asked++;
            int alone = sum(rules.get(rule), giving);
            crew.add(women.get(0));
            int together = sum(rules.get(rule), giving);
            crew.remove(crew.size() - 1);
            return term(alone - together, part);
        }

        int which(int giving) {
            if (rooms.isEmpty()) {
                return STATE;
            }
            if (!bit(giving)) {
                return OUTSIDE;
            }
            if (asked == 16) {
                return STATE;
            }
            asked++;
            int which = NONE;
            for (int i = 0; i < rules.size(); i++) {
                if (which == NONE || sum(rules.get(i), giving) < sum(rules.get(which), giving)) {
                    which = i;
                }
            }
            return which;
        }

        // ---- what is told of all

        int lates() {
            int sum = 0;
            for (Room room : rooms) {
                sum += room.late == NONE ? 0 : 1;
            }
            return sum;
        }

        int image() {
            if (rooms.isEmpty()) {
                return STATE;
            }
            imageLate = rooms.stream().mapToInt(room -> room.late).toArray();
            imageLift = lift;
            return lates();
        }

        int restore() {
            if (imageLate == null) {
                return STATE;
            }
            for (int r = 0; r < rooms.size(); r++) {
                rooms.get(r).late = imageLate[r];
            }
            lift = imageLift;
            return lates();
        }

        int count(int what) {
            return fact(new int[] {rooms.size(), women.size(), guests.size(), rules.size(), page.length(),
                chanceRooms().size(), lates(), asked}, what);
        }

        long digest() {
            List<Long> numbers = new ArrayList<>();
            rooms.forEach(room -> addAll(numbers, room.facts()));
            women.forEach(woman -> addAll(numbers, woman.facts()));
            guests.forEach(guest -> addAll(numbers, guest.facts()));
            numbers.add((long) lift);
            for (int i = 0; i < rules.size(); i++) {
                addAll(numbers, rules.get(i).kind, rules.get(i).n);
                if (rules.get(i).kind != 5 && !rooms.isEmpty()) {
                    addAll(numbers, cost(i, 0, 0), cost(i, 0, 1));
                }
            }
            addAll(numbers, page.chars().toArray());
            for (int what = 0; what < 8; what++) {
                numbers.add((long) count(what));
            }
            long h = 419;
            for (long number : numbers) {
                h = h * 31 + number;
            }
            return h;
        }

        static void addAll(List<Long> numbers, int... more) {
            for (int number : more) {
                numbers.add((long) number);
            }
        }
    }
}
