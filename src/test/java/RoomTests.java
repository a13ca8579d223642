import java.lang.management.ManagementFactory;

/** All room is made in the constructor: 280 calls of every kind make nothing more. */
public final class RoomTests {
    private static final com.sun.management.ThreadMXBean THREADS = (com.sun.management.ThreadMXBean) ManagementFactory.getThreadMXBean();

    private static void feed(ByThePound x, String s) {
        for (int i = 0; i < s.length(); i += 20) {
            int[] w = new int[5];
            for (int j = 0; j < 20; j++) {
                w[j / 4] = w[j / 4] << 8 | (i + j < s.length() ? s.charAt(i + j) : ' ');
            }
            x.feed(w[0], w[1], w[2], w[3], w[4]);
        }
        x.end(s.length());
    }

    private static ByThePound full() {
        ByThePound x = new ByThePound();
        for (int i = 0; i < 10; i++) {
            x.thing(9 * i + 1, 1 + i, 10 + i, i % 3);
            x.buyer(20 + i, i, 9 * i + 5, 40 - i);
            x.maker(2000, 1023, i % 4);
            x.gift(i % 8, (i * 3 + 1) % 8, i + 1);
        }
        for (int i = 0; i < 20; i++) {
            x.offer(i % 6, i % 4);
            x.put(i, i % 10, 10, 0);
            x.put(i, (i + 5) % 10, 10, 0);
        }
        feed(x, "worth taste * (want + 1) - weight; price weight + tied; hours 1 + weight / 3; bars not weight < 60 and size > 2;");
        x.by(x.text());
        feed(x, "wet 3; price 7; bars - weight > ;");
        return x;
    }

    private static int call(ByThePound x, int i) {
        switch (i % 20) {
            case 0: return x.year();
            case 1: return x.best(i % 6, i % 10, i % 4, 1);
            case 2: return x.rounds();
            case 3: return x.never(i % 10);
            case 4: return x.tied(i % 6, i % 10, (i + 1) % 10, i % 4);
            case 5: return x.harm(0, 2);
            case 6: return x.least();
            case 7: return x.changed(-1, i % 4);
            case 8: return x.where(i % 20);
            case 9: return x.round(i % 8);
            case 10: return x.steady();
            case 11: return x.buyers(i, 10);
            case 12: return x.image();
            case 13: return x.back();
            case 14: return x.text();
            case 15: return x.feed(i, i, i, i, i);
            case 16: return x.of(i % 20, i % 7) + x.worth(i % 10, i % 20) + x.likes(i % 10) + x.told(i % 4, i % 6);
            case 17: return x.judge() + x.net(i % 8) + x.about(i % 14) + x.fault(0);
            case 18: return x.drop(i % 20);
            default: return x.put((i - 1) % 20, i % 10, 11, 0);
        }
    }

    private static long made(ByThePound x) {
        long before = THREADS.getCurrentThreadAllocatedBytes();
        for (int i = 0; i < 280; i++) {
            call(x, i);
        }
        return THREADS.getCurrentThreadAllocatedBytes() - before;
    }

    public static void main(String[] args) {
        made(full());
        ByThePound x = full();
        long bytes = made(x);
        System.out.println("bytes made by 280 calls: " + bytes);
        if (bytes > 0) {
            System.exit(1);
        }
    }
}
