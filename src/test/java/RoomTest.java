import com.sun.management.ThreadMXBean;
import java.lang.management.ManagementFactory;

/** All calls of a run live in one room: a new object stays small, and calls behind it make next to nothing. */
public final class RoomTest {
    static final String HOUSE = "1a2g5/5g9,2a1g0/4g9,5a1g12/7g20,4a4g0,6a2g3,3a3g2"
            + ";1f0t44,3f0t44,6f0t44;6a3,8x2,2xh5,4a9,1a1,3x4,7a7,9a2";

    static long bytes() {
        return ((ThreadMXBean) ManagementFactory.getThreadMXBean()).getThreadAllocatedBytes(
                Thread.currentThread().getId());
    }

    static void put(RoomsByThree x, String text) {
        for (int i = 0; i < text.length(); i += 8) {
            long w = 0;
            for (int k = Math.min(text.length(), i + 8) - 1; k >= i; k--) {
                w = w << 8 | text.charAt(k);
            }
            x.letters(w);
        }
    }

    /** Some of every call, the dear ones as often as they may be. */
    static void use(RoomsByThree x) {
        put(x, HOUSE);
        x.fault(0);
        x.house();
        put(x, "012;34;5");
        x.fault(1);
        x.tell();
        for (int kind = 0; kind < 6; kind++) {
            x.rule(kind, 0);
        }
        x.rule(5, 1);
        x.image();
        for (int rule = 0; rule < 8; rule++) {
            x.late(rule % 6, rule);
            for (int giving = 0; giving < 2; giving++) {
                x.cost(rule, 7, giving);
                x.given(rule, 5, giving, 2, 1);
                x.done(rule, 3, 2, 1);
                x.mean(rule, giving, 0);
                x.worst(rule, giving, 0);
                x.sure(rule, giving, 1, 5, 0);
                x.tells(rule, giving, 3, 9);
                x.run(rule, giving, 5, 1);
            }
        }
        x.restore();
        x.best(1, 3);
        x.call(1, 0, 0);
        x.called(0);
        x.called(1);
        for (int rule = 4; rule < 8; rule++) {
            x.missed(rule, 1);
            x.more(rule, 0, 1);
        }
        x.which(0);
        x.which(1);
        x.digest();
    }

    public static void main(String[] args) {
        RoomsByThree first = new RoomsByThree();
        use(first);
        bytes();
        long start = bytes();
        RoomsByThree x = new RoomsByThree();
        long made = bytes();
        use(x);
        long used = bytes();
        System.out.println("a new object: " + (made - start) + " bytes; its calls: " + (used - made) + " bytes");
        if (made - start > 60000 || used - made > 4000 || x.count(7) < 14) {
            System.out.println("that is too much, or too little was done");
            System.exit(1);
        }
    }
}
