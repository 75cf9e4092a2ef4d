/** The edges of what is tried: sets that can't be, ties between orders, the least and the greatest speed, n cells to a side. */
public final class EdgeTrialsTest {
    private static final Bench BENCH = new Bench("EdgeTrialsTest");
    private static final int NONE = BeamPlate.NONE;
    private static final String[] SIDES = {"east", "north", "west", "south"};

    public static void main(String[] args) {
        orderSets();
        orderWhats();
        orderWithoutPlate();
        orderOfEmptyWays();
        orderFewestBurnt();
        orderFewestTicks();
        orderFirstByNumbers();
        orderFromThePlateAsItIs();
        orderOfSpentRuns();
        orderLeavesNothing();
        trialsOfEachStuff();
        speedRanges();
        speedToEachBorder();
        speedLeastAndGreatest();
        speedNoneIsThere();
        speedOfEachCell();
        speedFromThePlateAsItIs();
        speedLeavesNothing();
        BENCH.finish();
    }

    private static void due(String call, long got, long want) {
        BENCH.due(call, got, want);
    }

    private static void order(BeamPlate p, int set, int burnt, int ticks, int order) {
        due("14 burnt of " + set, p.order(set, 0), burnt);
        due("14 ticks of " + set, p.order(set, 1), ticks);
        due("14 order of " + set, p.order(set, 2), order);
    }

    // Promise 14: "a set of WAYS (1 .. 3 of them)"; "k counts 2 to the k"; "NONE if one can't be"
    private static void orderSets() {
        BeamPlate p = Bench.still(3, 3);
        for (int k = 0; k < 8; k++) {
            Bench.way(p, k, "hold " + (k + 1) + ";");
        }
        for (int set = -2; set <= 600; set++) {
            int ways = set < 0 || set > 255 ? 0 : Integer.bitCount(set);
            boolean can = ways >= 1 && ways <= 3;
            int digits = 9;
            int ticks = 0;
            for (int k = 0; k < 8 && can; k++) {
                if ((set >> k & 1) == 1) {
                    digits = 10 * digits + k;
                    ticks += k + 1;
                }
            }
            due("14 order of " + set, p.order(set, 2), can ? digits : NONE);
            due("14 ticks of " + set, p.order(set, 1), can ? ticks : NONE);
            due("14 burnt of " + set, p.order(set, 0), can ? 0 : NONE);
        }
        int[] wrong = {Integer.MIN_VALUE, Integer.MAX_VALUE, Integer.MIN_VALUE + 1, 1 << 30, (1 << 8) + 1, -256 + 1};
        for (int set : wrong) {
            due("14 set " + set, p.order(set, 2), NONE);
        }
    }

    // Promise 14: "or another what"
    private static void orderWhats() {
        BeamPlate p = Bench.still(3, 3);
        int[] others = {-1, 3, 4, Integer.MIN_VALUE, Integer.MAX_VALUE};
        for (int what : others) {
            due("14 what " + what, p.order(1, what), NONE);
            due("14 what " + what + " of no set", p.order(0, what), NONE);
        }
    }

    // Promise 14: "NONE if ... no PLATE"
    private static void orderWithoutPlate() {
        BeamPlate p = new BeamPlate();
        Bench.way(p, 0, "hold 1;");
        for (int what = 0; what <= 2; what++) {
            due("14 no plate", p.order(1, what), NONE);
        }
        p.plate(1, 1, 0, 1);
        due("14 with a plate", p.order(1, 1), 1);
        p.plate(0, 0, 0, 0);
        due("14 a refused plate takes none away", p.order(1, 1), 1);
    }

    private static void orderOfEmptyWays() {
        BeamPlate p = Bench.still(3, 3);
        order(p, 1, 0, 0, 90);
        order(p, 128, 0, 0, 97);
        order(p, 1 | 128, 0, 0, 907);
        order(p, 32 | 64 | 128, 0, 0, 9567);
        order(p, 1 | 2 | 4, 0, 0, 9012);
    }

    // "the one that leaves the fewest BURNT CELLS that are there"
    private static void orderFewestBurnt() {
        BeamPlate p = new BeamPlate();
        p.stuff(0, 100, 0, 0, 60);
        p.plate(4, 1, 0, 1);
        p.beam(60, true);
        // Way 6 burns the cell where the head stands, unless it stands at 0; way 2 takes it from 0.
        Bench.way(p, 6, "if x>0 on; hold 1; off;");
        Bench.way(p, 2, "to 1 0; hold 9;");
        order(p, 4 | 64, 0, 10, 962);
        // One that burns no cell is better than one of fewer ticks: way 2 cuts what way 6 burnt, but waits for it.
        Bench.way(p, 6, "on; hold 1; off;");
        Bench.way(p, 2, "if hot>0 hold 3; if hot>0 on; hold 1; off;");
        order(p, 64, 1, 1, 96);
        order(p, 4 | 64, 0, 5, 962);
        // What was burnt ahead counts, unless it is cut then.
        Bench.run(p, "to 3 0; on; hold 1; off;");
        Bench.way(p, 0, "");
        order(p, 1, 1, 0, 90);
        Bench.way(p, 0, "on; hold 1;");
        order(p, 1, 0, 1, 90);
        due("12 it is still burnt here", p.look(10), 1);
    }

    // "of several the fewest TICKS"
    private static void orderFewestTicks() {
        BeamPlate p = Bench.still(9, 1);
        Bench.way(p, 1, "go east 2;");
        Bench.way(p, 5, "speed 4;");
        order(p, 2 | 32, 0, 8, 951);
        Bench.way(p, 5, "speed 6;");
        order(p, 2 | 32, 0, 10, 915);
        Bench.way(p, 5, "speed 5;");
        order(p, 2 | 32, 0, 10, 915);
        Bench.way(p, 3, "speed 1;");
        Bench.way(p, 5, "speed 20;");
        order(p, 2 | 8 | 32, 0, 2, 9315);
        Bench.way(p, 1, "speed 20;");
        Bench.way(p, 5, "go east 2;");
        order(p, 2 | 8 | 32, 0, 2, 9135);
    }

    // "then the first by the WAYS' numbers"
    private static void orderFirstByNumbers() {
        BeamPlate p = Bench.still(9, 1);
        for (int k = 0; k < 8; k++) {
            Bench.way(p, k, "hold 2;");
        }
        order(p, 128 | 8 | 1, 0, 6, 9037);
        order(p, 128 | 64, 0, 4, 967);
        // Way 7 first is best with either of the others behind it: then the lower one of these comes first.
        Bench.way(p, 7, "speed 1;");
        Bench.way(p, 4, "go east 1;");
        Bench.way(p, 6, "go east 1;");
        order(p, 128 | 64 | 16, 0, 2, 9746);
        // Way 7 last is best: 4 and 6 ahead of it in their order.
        Bench.way(p, 7, "speed 20;");
        order(p, 128 | 64 | 16, 0, 10, 9467);
    }

    // "tried on plates like this one, from the HEAD, BEAM, SPEED as they are"
    private static void orderFromThePlateAsItIs() {
        BeamPlate p = new BeamPlate();
        p.stuff(0, 100, 0, 0, 60);
        p.plate(4, 2, 0, 1);
        p.beam(60, true);
        Bench.way(p, 0, "go east 9;");
        order(p, 1, 0, 15, 90);
        Bench.run(p, "speed 1;");
        order(p, 1, 0, 3, 90);
        Bench.run(p, "on;");
        order(p, 1, 3, 3, 90);
        Bench.run(p, "to 2 1;");
        order(p, 1, 1, 1, 90);
        Bench.run(p, "hold 1;");
        order(p, 1, 2, 1, 90);
        due("12 the plate's own ticks do not count", p.look(0), 1);
        // Each way's tick begins at 0, and each begins where the one ahead of it ended.
        Bench.way(p, 1, "if tick=0 hold 3; if x=3 hold 10;");
        Bench.run(p, "off; to 2 1;");
        order(p, 1 | 2, 2 - 1, 4, 910);
    }

    // Each way of a trial has its own 1000.
    private static void orderOfSpentRuns() {
        BeamPlate p = Bench.still(3, 3);
        Bench.way(p, 0, "hold 9999;");
        Bench.way(p, 1, "hold 9999;");
        Bench.way(p, 2, "hold 9999;");
        order(p, 7, 0, 3 * 999, 9012);
        due("12 none was spent here", p.look(13), 0);
        due("12 no tick went by here", p.look(0), 0);
    }

    private static void orderLeavesNothing() {
        BeamPlate p = Bench.still(5, 5);
        p.pitch(3);
        Bench.run(p, "speed 2; to 1 1; on; go east 2; go north 1;");
        Bench.way(p, 0, "speed 1; off; to 1 1; on; hold 1; go east 2; go north 2; go west 2; go south 1; hold 9999;");
        String before = Bench.seen(p, 5, 5);
        for (int what = 0; what <= 2; what++) {
            p.order(1, what);
            BENCH.yes("14 nothing was done", Bench.seen(p, 5, 5).equals(before));
        }
        p.run(0);
        BENCH.no("14 as it would be", Bench.seen(p, 5, 5).equals(before));
    }

    // "plates like this one": of its stuff, and as thick
    private static void trialsOfEachStuff() {
        for (int stuff = 0; stuff < 4; stuff++) {
            BeamPlate p = new BeamPlate();
            for (int k = 0; k < 4; k++) {
                p.stuff(k, 10 * (k + 1), 0, 0, 30 * (k + 1));
            }
            p.beam(10, true);
            Bench.way(p, 0, "on; speed " + (3 * (stuff + 1) - 1) + "; go east 1;");
            Bench.way(p, 1, "on; speed " + (3 * (stuff + 1)) + "; go east 1;");
            for (int thick = 1; thick <= 5; thick++) {
                p.plate(3, 2, stuff, thick);
                int takes = (stuff + 1) * thick;
                due("15 of stuff " + stuff + " thick " + thick, p.speed(0, 1), takes <= 20 ? takes : NONE);
                due("14 not burnt yet, stuff " + stuff + " thick " + thick, p.order(1, 0), 0);
                due("14 burnt or cut, stuff " + stuff + " thick " + thick, p.order(2, 0), thick > 3 ? 1 : 0);
            }
        }
    }

    // Promise 15: "n CELLS (1 .. 15) to a side"; "side 0 east, 1 north, 2 west, 3 south"; "NONE if ... one can't be, or no PLATE"
    private static void speedRanges() {
        BeamPlate none = new BeamPlate();
        due("15 no plate", none.speed(0, 1), NONE);
        BeamPlate p = Bench.still(16, 12);
        Bench.run(p, "to 8 6;");
        int[] wrong = {-1, 4, 5, Integer.MIN_VALUE, Integer.MAX_VALUE};
        for (int side : wrong) {
            due("15 side " + side, p.speed(side, 1), NONE);
        }
        int[] counts = {0, 16, -1, 17, Integer.MIN_VALUE, Integer.MAX_VALUE};
        for (int side = 0; side < 4; side++) {
            due("15 one cell to " + SIDES[side], p.speed(side, 1), 1);
            for (int n : counts) {
                due("15 cells " + n, p.speed(side, n), NONE);
            }
        }
        Bench.run(p, "to 0 0;");
        due("15 fifteen cells", p.speed(0, 15), 1);
        due("15 sixteen can't be", p.speed(0, 16), NONE);
    }

    // The head does not come to n cells if the border is nearer.
    private static void speedToEachBorder() {
        int[][] far = {{4, 2}, {6, 3}, {3, 5}, {1, 4}};
        for (int[] head : far) {
            BeamPlate p = Bench.still(8, 7);
            Bench.run(p, "to " + head[0] + " " + head[1] + ";");
            int[] cells = {7 - head[0], 6 - head[1], head[0], head[1]};
            for (int side = 0; side < 4; side++) {
                due("15 to the border", p.speed(side, cells[side]), cells[side] == 0 ? NONE : 1);
                due("15 beyond the border", p.speed(side, cells[side] + 1), NONE);
                due("15 far beyond", p.speed(side, 15), NONE);
            }
        }
        BeamPlate p = Bench.still(1, 1);
        for (int side = 0; side < 4; side++) {
            due("15 of one cell", p.speed(side, 1), NONE);
        }
        // Nothing is there, but the head comes to no cell.
        Bench.run(p, "on; hold 1;");
        due("15 nothing there", p.speed(0, 1), NONE);
    }

    // "the least 1 .. 20"
    private static void speedLeastAndGreatest() {
        for (int ticks = 1; ticks <= 22; ticks++) {
            BeamPlate p = new BeamPlate();
            p.stuff(0, 10 * ticks, 0, 0, 9999);
            p.plate(16, 2, 0, 1);
            p.beam(10, true);
            int want = ticks <= 20 ? ticks : NONE;
            due("15 it takes " + ticks, p.speed(0, 1), want);
            due("15 fifteen, it takes " + ticks, p.speed(0, 15), want);
            p.beam(9, true);
            int less = (10 * ticks + 8) / 9;
            due("15 a little weaker than for " + ticks, p.speed(0, 2), less <= 20 ? less : NONE);
        }
        BeamPlate p = Bench.still(3, 1);
        p.beam(0, true);
        due("15 without strength", p.speed(0, 1), NONE);
        p.beam(9999, false);
        due("15 without gas", p.speed(0, 1), NONE);
    }

    // "none of the n CELLS that the HEAD comes to is there (CUT, fallen, or ahead)"
    private static void speedNoneIsThere() {
        BeamPlate p = Bench.still(6, 1);
        Bench.run(p, "to 1 0; on; hold 1; to 3 0; hold 1; off; to 0 0;");
        p.beam(1, true);
        due("15 not there ahead", p.speed(0, 1), 1);
        due("15 the next one is", p.speed(0, 2), 10);
        due("15 not there ahead again", p.speed(0, 3), 10);
        // The cell where it begins is none of them.
        due("12 it is there", p.cell(0, 0, 1), 0);
        // The last one has most of the time that it needs, but not all of it.
        p.beam(9, true);
        p.plate(3, 1, 0, 1);
        Bench.run(p, "to 1 0; on; hold 1; off; to 0 0;");
        due("15 one that was warm", p.speed(0, 1), 1);
        due("15 one that was not", p.speed(0, 2), 2);
        // The cell 2, 2 is not cut, but falls as the one behind it is cut.
        p = Bench.still(5, 5);
        Bench.run(p, "on; to 1 2; hold 1; to 2 1; hold 1; to 2 3; hold 1; off;");
        p.beam(5, true);
        Bench.run(p, "to 3 2; on; hold 1; off; to 1 2;");
        due("15 it is there", p.cell(2, 2, 1), 0);
        due("15 cut alone it takes two", p.speed(0, 1), 2);
        due("15 fallen it takes one", p.speed(0, 2), 1);
        p.pitch(2);
        due("15 on a slat it takes two", p.speed(0, 2), 2);
        // Heat that is led on may cut a cell once the head is past it, and what is led away may leave it.
        p = new BeamPlate();
        p.stuff(0, 10, 20, 0, 9999);
        p.plate(4, 1, 0, 1);
        p.beam(10, true);
        due("15 with lead", p.speed(0, 1), 2);
    }

    // Each of the n cells has to be gone, to each side: the first, the last and one between.
    private static void speedOfEachCell() {
        int[][] steps = {{1, 0}, {0, 1}, {-1, 0}, {0, -1}};
        for (int side = 0; side < 4; side++) {
            for (int gone = 1; gone <= 7; gone++) {
                BeamPlate p = Bench.still(9, 9);
                for (int i = 1; i <= 3; i++) {
                    if ((gone >> (i - 1) & 1) == 1) {
                        Bench.run(p, "to " + (4 + i * steps[side][0]) + " " + (4 + i * steps[side][1]) + "; on; hold 1; off;");
                    }
                }
                Bench.run(p, "to 4 4;");
                p.beam(1, true);
                for (int n = 1; n <= 3; n++) {
                    boolean all = (gone & (1 << n) - 1) == (1 << n) - 1;
                    due("15 gone " + gone + " of " + n + " to " + SIDES[side], p.speed(side, n), all ? 1 : 10);
                }
            }
        }
    }

    private static void speedFromThePlateAsItIs() {
        BeamPlate p = Bench.still(6, 1);
        Bench.run(p, "speed 20; off;");
        due("15 the speed that is does not matter", p.speed(0, 5), 1);
        Bench.run(p, "on;");
        due("15 nor the beam", p.speed(0, 5), 1);
        Bench.run(p, "off; to 3 0;");
        due("15 from the head", p.speed(2, 3), 1);
        due("15 as far as it goes", p.speed(0, 3), NONE);
    }

    private static void speedLeavesNothing() {
        BeamPlate p = Bench.still(5, 5);
        Bench.run(p, "speed 2; to 1 1; on; go east 2; go north 1; off;");
        String before = Bench.seen(p, 5, 5);
        due("15 back", p.speed(2, 3), 1);
        due("15 beyond", p.speed(0, 4), NONE);
        BENCH.yes("15 nothing was done", Bench.seen(p, 5, 5).equals(before));
    }
}
