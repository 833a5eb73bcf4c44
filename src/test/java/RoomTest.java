import java.lang.management.ManagementFactory;

/** What the dearest calls make must stay far under the room that all calls of a run share. */
public final class RoomTest {
    private static final long BYTES_OF_AN_OBJECT = 40_000;
    private static final long BYTES_OF_A_CALL = 600;

    private static final com.sun.management.ThreadMXBean THREADS =
            (com.sun.management.ThreadMXBean) ManagementFactory.getThreadMXBean();
    private static int wrong = 0;

    public static void main(String[] args) {
        made();
        long first = made();
        PulledSignals[] objects = new PulledSignals[100];
        for (int i = 0; i < objects.length; i++) {
            objects[i] = new PulledSignals();
        }
        within("an object", (made() - first) / objects.length, BYTES_OF_AN_OBJECT);
        full();
        within("a call", full() / 512, BYTES_OF_A_CALL);
        System.out.println("RoomTest: " + wrong + " wrong");
        if (wrong != 0) {
            System.exit(1);
        }
    }

    private static long made() {
        return THREADS.getThreadAllocatedBytes(Thread.currentThread().getId());
    }

    private static void within(String what, long bytes, long limit) {
        System.out.println("RoomTest: " + what + " makes " + bytes + " bytes");
        if (bytes > limit) {
            wrong++;
            System.out.println("RoomTest: that is more than " + limit);
        }
    }

    /** 24 cells with formulas of many letters, then the calls that work out most. */
    private static long full() {
        PulledSignals x = new PulledSignals();
        long first = made();
        x.source(1, -1);
        int calls = 1;
        for (int c = 1; c < 24; c++) {
            for (int i = Math.max(0, c - 6); i < c; i++) {
                x.feed('a' + i);
                x.feed(i == c - 1 ? '*' : '+');
                calls += 2;
            }
            x.feed('2');
            x.memo(-1);
            calls += 2;
        }
        while (calls + 8 <= 512) {
            x.news(0, calls);
            x.aim(0, 23, Integer.MAX_VALUE);
            x.days(60);
            x.read(23);
            x.image();
            x.back();
            x.row(0, 3, 40);
            x.plain(23);
            calls += 8;
        }
        return made() - first;
    }
}
