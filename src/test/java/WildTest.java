import com.sun.management.ThreadMXBean;
import java.lang.management.ManagementFactory;
import java.util.Random;

/** Calls with any numbers at all: none may throw, the same calls answer the same, and little room is taken. */
public final class WildTest {
    private static final Bench BENCH = new Bench("WildTest");
    private static final int[] EDGES = {Integer.MIN_VALUE, Integer.MIN_VALUE + 1, -65536, -2, -1, 0, 1, 2, 3, 4, 5, 6, 7, 8, 9,
        10, 11, 12, 13, 14, 15, 16, 17, 19, 20, 21, 39, 40, 41, 99, 100, 255, 256, 257, 399, 400, 401, 999, 1000, 9999,
        10000, 65536, Integer.MAX_VALUE - 1, Integer.MAX_VALUE};
    private static final String[] TEXTS = {"on; hold 1;", "on; go east 15; go north 11;", "to 3 3; on; hold 9;",
        "again 99 begin on; hold 99; end;", "go west", "speed 1; on; to 1 1; go east 3; go north 3; go west 3; go south 3;"};

    public static void main(String[] args) {
        for (int seed = 0; seed < 200; seed++) {
            wild(seed);
        }
        room();
        BENCH.finish();
    }

    private static void wild(int seed) {
        Random one = new Random(seed);
        Random other = new Random(seed);
        BeamPlate a = new BeamPlate();
        BeamPlate b = new BeamPlate();
        for (int i = 0; i < 512; i++) {
            BENCH.due("seed " + seed + " call " + i, answer(a, one), answer(b, other));
        }
    }

    private static int any(Random random) {
        int dice = random.nextInt(8);
        return dice == 0 ? random.nextInt() : dice < 4 ? EDGES[random.nextInt(EDGES.length)] : random.nextInt(16);
    }

    private static long answer(BeamPlate p, Random r) {
        switch (r.nextInt(23)) {
            case 0: return p.stuff(any(r), any(r), any(r), any(r), any(r)) ? 1 : 0;
            case 1: return p.plate(any(r), any(r), any(r), any(r)) ? 1 : 0;
            case 2: return p.beam(any(r), r.nextBoolean()) ? 1 : 0;
            case 3: return p.pitch(any(r)) ? 1 : 0;
            case 4: return p.feed(any(r), any(r), any(r), any(r), any(r));
            case 5: return p.end(any(r)) ? 1 : 0;
            case 6: return p.way(any(r)) ? 1 : 0;
            case 7: return p.fault(any(r));
            case 8: return p.run(any(r));
            case 9: return p.cell(any(r), any(r), any(r));
            case 10: return p.look(any(r));
            case 11: return p.heat(any(r));
            case 12: return p.order(any(r), any(r));
            case 13: return p.speed(any(r), any(r));
            case 14: return p.kind(any(r), any(r), any(r));
            case 15: return p.fill(any(r), any(r));
            case 16: return p.test(any(r), any(r), r.nextBoolean(), any(r)) ? 1 : 0;
            case 17: return p.known(any(r), any(r), any(r));
            case 18: return p.sparks();
            case 19: return p.lost(any(r), any(r));
            case 20: return p.plate(1 + r.nextInt(16), 1 + r.nextInt(12), r.nextInt(4), 1 + r.nextInt(9)) ? 1 : 0;
            case 21: return Bench.way(p, r.nextInt(8), TEXTS[r.nextInt(TEXTS.length)]) ? 1 : 0;
            default: return p.run(r.nextInt(8));
        }
    }

    // All calls of a run share a room of some 7 million fields and elements, so the object makes its rows but once.
    private static void room() {
        ThreadMXBean threads = (ThreadMXBean) ManagementFactory.getThreadMXBean();
        long id = Thread.currentThread().getId();
        new BeamPlate();
        long before = threads.getThreadAllocatedBytes(id);
        BeamPlate p = new BeamPlate();
        long made = threads.getThreadAllocatedBytes(id) - before;
        BENCH.yes("a new object takes " + made + " bytes", made < 200_000);
        p.plate(16, 12, 0, 1);
        Bench.way(p, 0, "on; go east 15; go north 11; go west 15;");
        Bench.way(p, 1, "on; to 1 1; speed 1; go east 13; go north 9; go west 13; go south 9;");
        Bench.way(p, 2, "again 99 begin if hot+x<y+9 hold 2; end;");
        p.kind(3, 2, 5);
        before = threads.getThreadAllocatedBytes(id);
        for (int i = 0; i < 20; i++) {
            p.run(i % 3);
            p.order(7, 2);
            p.speed(0, 3);
            p.cell(5, 5, 5);
            p.look(11);
            p.fill(40, 40);
            p.plate(16, 12, 0, 1);
        }
        long used = threads.getThreadAllocatedBytes(id) - before;
        BENCH.yes("140 calls take " + used + " bytes", used < 20_000);
    }
}
