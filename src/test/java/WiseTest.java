import java.util.Arrays;
import java.util.Random;

/**
 * The WISE giving against all ways to give, tried one by one: guest 0 with the least room first and none last, then
 * guest 1, and so on, so that the first way of least cost is the one that is wished. Houses are such that many ways
 * cost the same, or nearly: like guests, like rooms, few quarters to wait.
 */
public final class WiseTest {
    static final int NONE = Checks.NONE;
    static final String WORDS = "1 WISE: of all ways to give by which COST of all together is least the one by which GUEST 0 "
            + "is given the least ROOM (none behind all), then GUEST 1, and so on.";

    /** A room that comes later takes the place of one of these by a chain of others: found by trying many. */
    static final String[] CHAINS = {
        "4a1g0,3a1g0,3a1g0,4a1g0;3f0t44,4f0t44;41dh1,42dh1,41a1,41xh1,40d1,40c1,42ch1,42a1",
        "3b1g0,3d2g0,3d2g0,3b2g0;3f0t44,4f0t44;41ch2,42bh2,42c2,41c1,41x2,42b2,40a2,42d2",
        "4a1g0,4b1g0,4b1g0,3b1g0,4a1g0;3f0t44,4f0t44;9ch2,8xh1,7dh1,8b2,7c2,8d1,8a1,8x1",
        "3a2g0,3b2g0,3b2g0,3b1g0,3a2g0;3f0t44,4f0t44;6xh2,6xh2,5bh1,6d2,6x2,6a2,6d1,6x2",
        "4b2g0,3a2g0,3b1g0,3b1g0,4a2g0;3f0t44,4f0t44;11d2,10d1,9d1,9b1,9a2,10d1,9xh1,9b1",
        "3a1g0,3a1g0,3a1g0,3a1g0,4b1g0,3a1g0,3b1g0;3f0t44,4f0t44;41dh1,42dh2,41ch2,41d1,41dh2,40ah1,40dh1,40b2",
    };

    public static void main(String[] args) {
        Checks.says(WORDS);
        for (String house : CHAINS) {
            asTried(house);
        }
        Random draws = new Random(15);
        for (int i = 0; i < 20000; i++) {
            asTried(drawn(draws));
        }
        Checks.end();
    }

    static void asTried(String house) {
        RoomsByThree x = Checks.with(house, 0);
        Trial trial = new Trial(x);
        trial.give(0, 0, 0);
        Checks.due("cost(0, 0, 1) of '" + house + "'", x.cost(0, 0, 1), trial.least);
        for (int g = 0; g < trial.wished.length; g++) {
            Checks.due("given(0, 0, 1, " + g + ", 0) of '" + house + "'", x.given(0, 0, 1, g, 0), trial.wished[g]);
        }
    }

    static String drawn(Random draws) {
        StringBuilder s = new StringBuilder();
        int rooms = 2 + draws.nextInt(5);
        int sorts = 1 + draws.nextInt(3);
        int works = 1 + draws.nextInt(3);
        for (int r = 0; r < rooms; r++) {
            s.append(r > 0 ? "," : "").append(3 + draws.nextInt(2)).append("abc".charAt(draws.nextInt(sorts)));
            s.append(1 + draws.nextInt(works)).append("g0");
        }
        s.append(";3f0t44,4f0t").append(draws.nextInt(4) == 0 ? 3 : 44).append(';');
        int guests = draws.nextInt(3) == 0 ? 1 + draws.nextInt(7) : 8;
        int earliest = draws.nextInt(3) == 0 ? 40 + draws.nextInt(5) : draws.nextInt(12);
        int weights = 1 + draws.nextInt(2);
        for (int g = 0; g < guests; g++) {
            s.append(g > 0 ? "," : "").append(Math.min(44, earliest + draws.nextInt(3)));
            s.append("abcdxx".charAt(draws.nextInt(6))).append(draws.nextInt(4) == 0 ? "h" : "");
            s.append(1 + draws.nextInt(weights));
        }
        return s.toString();
    }

    /** What the object tells of its rooms, as a LIST does them, and of its guests; and all ways to give. */
    static final class Trial {
        final int[][] rooms;
        final int[][] guests;
        final int[] given;
        final int[] wished;
        int least = Integer.MAX_VALUE;

        Trial(RoomsByThree x) {
            rooms = new int[x.count(0)][];
            guests = new int[x.count(2)][];
            for (int r = 0; r < rooms.length; r++) {
                rooms[r] = new int[] {x.room(r, 0), x.room(r, 1), x.done(0, 0, r, 2)};
            }
            for (int g = 0; g < guests.length; g++) {
                guests[g] = new int[] {x.guest(g, 0), x.guest(g, 1), x.guest(g, 2), x.guest(g, 3)};
            }
            given = new int[guests.length];
            wished = new int[guests.length];
            Arrays.fill(wished, Integer.MIN_VALUE);
        }

        boolean may(int g, int r) {
            boolean fits = (guests[g][1] == NONE || guests[g][1] == rooms[r][1])
                    && (guests[g][2] == 0 || rooms[r][0] >= 4);
            return fits && rooms[r][2] != NONE;
        }

        void give(int g, int taken, int cost) {
            if (g == guests.length) {
                if (cost < least) {
                    least = cost;
                    System.arraycopy(given, 0, wished, 0, given.length);
                }
                return;
            }
            for (int r = 0; r < rooms.length; r++) {
                if ((taken >> r & 1) == 0 && may(g, r)) {
                    given[g] = r;
                    give(g + 1, taken | 1 << r, cost + costOf(g, rooms[r][2]));
                }
            }
            given[g] = NONE;
            give(g + 1, taken, cost + costOf(g, 44));
        }

        int costOf(int g, int until) {
            return until <= guests[g][0] ? 0 : (until - guests[g][0]) * guests[g][3];
        }
    }
}
