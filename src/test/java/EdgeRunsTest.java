/** The edges of a run: borders, none at all, the last of 1000, hits and misses; run() and what it leaves behind. */
public final class EdgeRunsTest {
    private static final Bench BENCH = new Bench("EdgeRunsTest");
    private static final int NONE = BeamPlate.NONE;

    public static void main(String[] args) {
        runRanges();
        runFromThePlateAsItIs();
        toEdges();
        goEdges();
        holdAndSpeedEdges();
        againEdges();
        relations();
        sums();
        hotAndCut();
        ticksOfThisRun();
        hitOrNot();
        lastOfThousandIsATick();
        lastOfThousandIsAStep();
        spentWithinGo();
        spentWithinAgainAndIf();
        spentRunsAreCounted();
        BENCH.finish();
    }

    private static void due(String call, long got, long want) {
        BENCH.due(call, got, want);
    }

    private static void at(String when, BeamPlate p, int x, int y) {
        due(when + ": x", p.look(1), x);
        due(when + ": y", p.look(2), y);
    }

    private static int ticks(String text) {
        return Bench.run(Bench.still(4, 3), text);
    }

    // Promise 10: "NONE, and nothing is done, if there is none such, or no PLATE"
    private static void runRanges() {
        BeamPlate p = new BeamPlate();
        int[] wrong = {-1, 8, Integer.MIN_VALUE, Integer.MAX_VALUE};
        for (int k = 0; k < 8; k++) {
            Bench.way(p, k, "on; hold 1; speed 3;");
            due("10 no plate", p.run(k), NONE);
        }
        due("10 nothing was done", p.look(3) + p.look(4) + p.look(0), 0);
        for (int k : wrong) {
            due("10 no plate, none such " + k, p.run(k), NONE);
        }
        p.plate(3, 2, 0, 1);
        String before = Bench.seen(p, 3, 2);
        for (int k : wrong) {
            due("10 none such " + k, p.run(k), NONE);
        }
        BENCH.yes("10 nothing was done", Bench.seen(p, 3, 2).equals(before));
        for (int k = 0; k < 8; k++) {
            due("10 way " + k, p.run(k), 1);
        }
        BeamPlate q = Bench.still(3, 2);
        before = Bench.seen(q, 3, 2);
        due("10 an empty way", q.run(5), 0);
        BENCH.yes("10 does nothing", Bench.seen(q, 3, 2).equals(before));
        due("10 and is not spent", q.look(13), 0);
    }

    // "A WAY RUNS from the PLATE as it is"
    private static void runFromThePlateAsItIs() {
        BeamPlate p = Bench.still(6, 3);
        Bench.run(p, "to 2 1; speed 2; on;");
        due("10 the beam stays on", p.look(3), 1);
        due("10 the speed stays", Bench.run(p, "go east 2;"), 4);
        at("10 the head stays", p, 4, 1);
        due("10 it has cut there", p.look(7), 2);
        Bench.run(p, "off;");
        due("10 off", p.look(3), 0);
        Bench.run(p, "off; off;");
        due("10 off once more", p.look(3), 0);
        Bench.run(p, "on; on;");
        due("10 on twice", p.look(3), 1);
        p.plate(6, 3, 0, 1);
        due("10 a new plate's speed", Bench.run(p, "go east 1;"), 5);
        due("10 a new plate's beam is off", p.look(7), 0);
    }

    // "to: the HEAD goes to x, y (if that is on the PLATE, else it stays), without a TICK"
    private static void toEdges() {
        BeamPlate p = Bench.still(4, 3);
        int[][] on = {{0, 0}, {3, 0}, {0, 2}, {3, 2}, {1, 1}};
        for (int[] c : on) {
            due("10 without a tick", Bench.run(p, "to " + c[0] + " " + c[1] + ";"), 0);
            at("10 to", p, c[0], c[1]);
        }
        int[][] beyond = {{4, 1}, {1, 3}, {4, 3}, {9999, 0}, {0, 9999}, {16, 12}};
        for (int[] c : beyond) {
            due("10 without a tick", Bench.run(p, "to " + c[0] + " " + c[1] + ";"), 0);
            at("10 beyond it stays", p, 1, 1);
        }
        due("10 no tick of the plate", p.look(0), 0);
        Bench.run(p, "to 9 9; to 2 2; to 9 9;");
        at("10 the next step is done", p, 2, 2);
    }

    // "go: CELL by CELL (east: x more, north: y more); one beyond the border ends it; with each CELL SPEED TICKS go by"
    private static void goEdges() {
        String[] sides = {"east", "north", "west", "south"};
        int[][] ends = {{4, 2}, {2, 4}, {0, 2}, {2, 0}};
        int[][] next = {{3, 2}, {2, 3}, {1, 2}, {2, 1}};
        for (int side = 0; side < 4; side++) {
            BeamPlate p = Bench.still(5, 5);
            String go = "to 2 2; go " + sides[side] + " ";
            due("10 go 0", Bench.run(p, go + "0;"), 0);
            at("10 go 0", p, 2, 2);
            due("10 go 1", Bench.run(p, go + "1;"), 5);
            at("10 go 1", p, next[side][0], next[side][1]);
            due("10 just to the border", Bench.run(p, go + "2;"), 10);
            at("10 just to the border", p, ends[side][0], ends[side][1]);
            due("10 one beyond it", Bench.run(p, go + "3;"), 10);
            at("10 one beyond it", p, ends[side][0], ends[side][1]);
            due("10 far beyond it", Bench.run(p, go + "9999; hold 1;"), 11);
            at("10 far beyond it", p, ends[side][0], ends[side][1]);
            due("10 from the border", Bench.run(p, "go " + sides[side] + " 1; hold 2;"), 2);
            at("10 from the border", p, ends[side][0], ends[side][1]);
        }
        BeamPlate p = Bench.still(1, 1);
        for (String side : sides) {
            due("10 nowhere to go", Bench.run(p, "go " + side + " 9;"), 0);
        }
        at("10 nowhere to go", p, 0, 0);
        p = Bench.still(16, 12);
        due("10 along the largest", Bench.run(p, "speed 20; go east 15; go north 11;"), 20 * 26);
        at("10 along the largest", p, 15, 11);
        // The beam gives in the cells that the head comes to, not in the one that it leaves.
        p = Bench.still(4, 1);
        Bench.run(p, "speed 1; on; go east 2;");
        due("10 where it left", p.cell(0, 0, 1), 0);
        due("10 where it came through", p.cell(1, 0, 1), 1);
        due("10 where it came to", p.cell(2, 0, 1), 1);
        due("10 where it did not come to", p.cell(3, 0, 1), 0);
    }

    // "hold: so many TICKS. speed: SPEED from now on."
    private static void holdAndSpeedEdges() {
        due("10 hold 0", ticks("hold 0;"), 0);
        due("10 hold 1", ticks("hold 1;"), 1);
        due("10 hold 998", ticks("hold 998;"), 998);
        BeamPlate p = Bench.still(9, 1);
        due("10 speed at first", Bench.run(p, "go east 1; speed 1; go east 1; speed 20; go east 1;"), 26);
        due("10 from now on", p.look(4), 20);
        due("10 no faulty speed", Bench.way(p, 0, "speed 1; speed 21;") ? 1 : 0, 0);
        p.run(0);
        due("10 nothing of a faulty text", p.look(4), 20);
    }

    // "again: so often"
    private static void againEdges() {
        due("10 once", ticks("again 1 begin hold 1; end;"), 1);
        due("10 twice", ticks("again 2 begin hold 1; end;"), 2);
        due("10 99 times", ticks("again 99 begin hold 1; end;"), 99);
        due("10 nothing, 99 times", ticks("again 99 begin end; hold 7;"), 7);
        due("10 anew each time", ticks("again 3 begin again 2 begin hold 1; end; hold 1; end;"), 9);
        due("10 four within one another", ticks("again 2 begin again 3 begin again 1 begin again 4 begin hold 1; end; end; "
            + "end; end;"), 24);
        due("10 one behind the other", ticks("again 2 begin hold 1; end; again 3 begin hold 10; end;"), 32);
        due("10 none if it is not so", ticks("if 1=2 again 9 begin hold 1; end; hold 4;"), 4);
        due("10 so often if it is so", ticks("if 1=1 again 9 begin hold 1; end; hold 4;"), 13);
    }

    // "C = E (< | = | >) E": at what is the same, one less and one more
    private static void relations() {
        int[][] pairs = {{4, 5}, {5, 5}, {6, 5}};
        for (int[] p : pairs) {
            due("10 below " + p[0], ticks("if " + p[0] + "<" + p[1] + " hold 1;"), p[0] < p[1] ? 1 : 0);
            due("10 the same " + p[0], ticks("if " + p[0] + "=" + p[1] + " hold 1;"), p[0] == p[1] ? 1 : 0);
            due("10 above " + p[0], ticks("if " + p[0] + ">" + p[1] + " hold 1;"), p[0] > p[1] ? 1 : 0);
        }
        BeamPlate p = Bench.still(4, 3);
        due("10 x and y at first", Bench.run(p, "if x=0 if y=0 hold 1;"), 1);
        due("10 x and y at the end", Bench.run(p, "to 3 2; if x=3 if y=2 hold 1;"), 1);
        due("10 as it stays", Bench.run(p, "to 4 2; if x=3 if y=2 hold 1;"), 1);
        due("10 no other step is done", Bench.run(p, "on; speed 3; to 1 1; if x+y+0-0=1+1 hold 1; if x=y-2+1 off;"), 1);
        due("10 the beam is still on", p.look(3), 1);
        due("10 the speed is still so", p.look(4), 3);
        at("10 the head is still there", p, 1, 1);
        due("10 if within if", ticks("if 1=1 if 1=2 hold 1; if 1=2 if 1=1 hold 2; if 1=1 if 1=1 hold 4;"), 4);
    }

    // "E = U {(+ | -) U}": from the left, below 0, and beyond an int
    private static void sums() {
        due("10 from the left", ticks("if 9-5-3=1 hold 1;"), 1);
        due("10 minus, then plus", ticks("if 9-5+3=7 hold 1;"), 1);
        due("10 below 0", ticks("if 0-1<0 hold 1;"), 1);
        due("10 below 0 on both sides", ticks("if 0-9999<0-9998 hold 1;"), 1);
        due("10 on both sides the same", ticks("if 3-5=5-7 hold 1;"), 1);
        due("10 far below", ticks("if 0" + "-9999".repeat(70) + "<0-9999 hold 1;"), 1);
        BeamPlate p = new BeamPlate();
        p.stuff(0, 999, 0, 0, 9999);
        p.plate(1, 1, 0, 9);
        p.beam(9999, false);
        Bench.way(p, 0, "on; hold 998; off;");
        for (int i = 0; i < 11; i++) {
            p.run(0);
        }
        due("10 the hottest", p.cell(0, 0, 0), 99999999);
        due("10 hot at its most", Bench.run(p, "if hot+1>9999 if hot>hot-1 hold 1;"), 1);
        // 22 of them are beyond an int, 43 beyond one without a sign.
        int[] counts = {21, 22, 42, 43, 44, 64};
        for (int n : counts) {
            due("10 of " + n + " hottest", Bench.run(p, "if hot" + "+hot".repeat(n - 1) + ">0 hold 1;"), 1);
            due("10 of " + n + " hottest below 0", Bench.run(p, "if 0" + "-hot".repeat(n) + "<0 hold 1;"), 1);
        }
    }

    // "hot: heat of the CELL under the HEAD, 0 if it is not there"; "cut 1 if the CELL is not there, else 0"
    private static void hotAndCut() {
        BeamPlate p = Bench.still(5, 5);
        p.beam(9, true);
        due("10 hot", Bench.run(p, "if hot=0 hold 1; on; hold 1; off; if hot=9 hold 10; if cut=0 hold 100;"), 112);
        p.beam(1, true);
        due("10 cut", Bench.run(p, "on; hold 1; off; if hot=0 hold 10; if cut=1 hold 100;"), 111);
        p.beam(10, true);
        Bench.run(p, Bench.around(2, 2) + "off;");
        due("10 fallen is not there", Bench.run(p, "to 2 2; if cut=1 hold 1; if hot=0 hold 10; if cut=0 hold 100;"), 11);
        p = tippedPair();
        due("10 tipped is there", Bench.run(p, "to 2 2; if cut=0 hold 1;"), 1);
    }

    // "tick the TICKS of this run so far"
    private static void ticksOfThisRun() {
        BeamPlate p = Bench.still(5, 5);
        due("10 none yet", Bench.run(p, "if tick=0 hold 1; if tick=1 hold 10;"), 11);
        due("10 none yet in the next", Bench.run(p, "if tick=0 hold 1; if tick=1 hold 10;"), 11);
        due("12 both together", p.look(0), 22);
        due("10 of go too", Bench.run(p, "go east 2; if tick=10 hold 1;"), 11);
        due("10 a step is no tick", Bench.run(p, "on; off; to 1 1; speed 2; if tick=0 hold 1;"), 1);
    }

    /** Cells 2, 2 and 3, 2 are tipped on a slat under 3; the beam is off. */
    private static BeamPlate tippedPair() {
        BeamPlate p = Bench.still(6, 5);
        p.pitch(3);
        Bench.run(p, "on; speed 1; to 1 1; hold 1; go east 3; go north 2; go west 3; go south 1; off;");
        due("10 tipped", p.cell(2, 2, 1) + p.cell(3, 2, 1), 6);
        return p;
    }

    // "As the HEAD comes to a CELL (to or go) that is there and TIPPED, it is a HIT."
    private static void hitOrNot() {
        String[][] runs = {{"to 2 2;", "1"}, {"to 3 2;", "1"}, {"to 1 2;", "0"}, {"to 4 2;", "0"}, {"to 2 3;", "0"},
            {"to 1 2; go east 1;", "1"}, {"to 1 2; go east 2;", "2"}, {"to 1 2; go east 3;", "2"},
            {"to 1 2; go east 0;", "0"}, {"to 2 0; go north 4;", "1"}, {"to 5 2; go west 5;", "2"},
            {"to 2 2; hold 5;", "1"}, {"to 2 2; to 6 2;", "1"}, {"to 2 2; to 2 5;", "1"}, {"to 2 2; on; off; speed 3;", "1"},
            {"again 3 begin to 2 2; to 0 0; end;", "3"}, {"to 2 2; to 3 2; to 2 2;", "3"},
            {"if 1=2 to 2 2;", "0"}, {"to 2 2; go east 1; go east 1;", "2"}};
        for (String[] r : runs) {
            BeamPlate p = tippedPair();
            Bench.run(p, r[0]);
            due("10 hits of " + r[0], p.look(5), Integer.parseInt(r[1]));
        }
        BeamPlate p = tippedPair();
        Bench.run(p, "to 2 2;");
        p.run(7);
        due("10 each time", p.look(5), 2);
        Bench.run(p, "hold 1;");
        due("10 a run that begins there is no hit", p.look(5), 2);
        Bench.run(p, "on; hold 1; off; to 0 0; to 2 2;");
        due("10 it is cut then, and no hit", p.look(5), 2);
        p.pitch(4);
        Bench.run(p, "to 0 0; on; hold 1; off; to 3 2;");
        due("10 it has fallen then", p.cell(3, 2, 1), 2);
        due("10 and is no hit", p.look(5), 2);
        // A part that lies still is no hit.
        p = Bench.still(5, 5);
        p.pitch(2);
        Bench.run(p, Bench.around(2, 2) + "off; to 2 2;");
        due("10 loose but not tipped", p.cell(2, 2, 4) + p.look(5), 0);
    }

    private static void spent(String text, int ticks, int spent) {
        BeamPlate p = Bench.still(4, 3);
        due("10 ticks of " + text, Bench.run(p, text), ticks);
        due("12 ticks of the plate behind " + text, p.look(0), ticks);
        due("12 spent by " + text, p.look(13), spent);
    }

    // "Each STEP, and each TICK, costs 1 of 1000; when these are used up the run stops there (SPENT)."
    private static void lastOfThousandIsATick() {
        spent("hold 997;", 997, 0);
        spent("hold 998;", 998, 0);
        spent("hold 999;", 999, 1);
        spent("hold 1000;", 999, 1);
        spent("hold 9999;", 999, 1);
        spent("hold 499; hold 498;", 997, 0);
        spent("hold 499; hold 499;", 998, 1);
        spent("hold 499; hold 500;", 998, 1);
        BeamPlate p = Bench.still(4, 3);
        Bench.run(p, "hold 999; on; to 3 2; speed 9;");
        due("10 no step behind it: on", p.look(3), 0);
        due("10 no step behind it: speed", p.look(4), 5);
        at("10 no step behind it: to", p, 0, 0);
    }

    private static void lastOfThousandIsAStep() {
        BeamPlate p = Bench.still(4, 3);
        due("10 the 1000th is on", Bench.run(p, "hold 998; on; hold 5;"), 998);
        due("10 it was done", p.look(3), 1);
        due("10 the 1000th is off", Bench.run(p, "off; hold 997; on; off; hold 5;"), 997);
        due("10 the 1001st was not done", p.look(3), 1);
        due("10 the 1000th is to", Bench.run(p, "off; hold 997; to 3 2; to 1 1;"), 997);
        at("10 it was done, not the next", p, 3, 2);
        due("10 the 1000th is speed", Bench.run(p, "hold 998; speed 7; speed 9;"), 998);
        due("10 it was done, not the next", p.look(4), 7);
        due("10 the 1000th is hold", Bench.run(p, "hold 998; hold 5;"), 998);
        due("10 the 1000th is go", Bench.run(p, "to 0 0; hold 997; go east 3;"), 997);
        at("10 go was paid for, but no cell", p, 0, 0);
        due("12 each of them was spent", p.look(13), 6);
    }

    private static void spentWithinGo() {
        BeamPlate p = Bench.still(9, 1);
        due("10 within a cell", Bench.run(p, "speed 10; hold 983; go east 5;"), 983 + 14);
        at("10 within a cell", p, 2, 0);
        due("10 at a cell's last tick", Bench.run(p, "to 0 0; hold 977; go east 5;"), 977 + 20);
        at("10 at a cell's last tick", p, 2, 0);
        due("10 at a cell's first tick", Bench.run(p, "to 0 0; hold 976; go east 5;"), 976 + 21);
        at("10 at a cell's first tick", p, 3, 0);
        due("12 three spent", p.look(13), 3);
    }

    private static void spentWithinAgainAndIf() {
        spent("again 99 begin hold 9; end;", 891, 0);
        spent("again 99 begin hold 10; end;", 908, 1);
        // again, if and what is within cost one each; a turn costs nothing.
        spent("again 99 begin end; hold 997;", 997, 0);
        spent("again 99 begin end; hold 998;", 998, 1);
        spent("if 1=2 hold 1; hold 997;", 997, 0);
        spent("if 1=2 hold 1; hold 998;", 998, 1);
        spent("if 1=1 hold 997;", 997, 0);
        spent("if 1=1 hold 998;", 998, 1);
        spent("if 1=1 if 1=1 hold 996;", 996, 0);
        spent("if 1=1 if 1=1 hold 997;", 997, 1);
        spent("if 1+1+1=3 hold 997;", 997, 0);
        spent("if 1+1+1=3 hold 998;", 998, 1);
        spent("if 3=1+1+1 hold 997;", 997, 0);
        spent("if 3=1+1+1 hold 998;", 998, 1);
        spent("if 1+1+1+1<1+1 hold 1; hold 997;", 997, 0);
        spent("if 1+1+1+1<1+1 hold 1; hold 998;", 998, 1);
        spent("hold 998; if 1=1 hold 5;", 998, 1);
        spent("hold 997; if 1=1 hold 5;", 997, 1);
        spent("hold 996; if 1=1 hold 5;", 997, 1);
        spent("again 9 begin again 99 begin on; end; end; hold 97;", 97, 0);
        spent("again 9 begin again 99 begin on; end; end; hold 98;", 98, 1);
        spent("again 9 begin again 99 begin on; end; end; hold 99;", 98, 1);
        spent("again 10 begin again 99 begin off; end; end; hold 9;", 0, 1);
        // Nothing is done 99 times 9 times 99 times, which costs 1 + 99 + 99 times 9 and no more.
        spent("again 99 begin again 9 begin again 99 begin end; end; end; hold 7;", 7, 0);
        spent("again 99 begin again 9 begin again 99 begin end; end; end; hold 8;", 8, 1);
        spent("again 99 begin again 99 begin again 99 begin again 99 begin end; end; end; end; hold 8;", 0, 1);
    }

    // Promise 12: "13 runs that were SPENT"
    private static void spentRunsAreCounted() {
        BeamPlate p = Bench.still(4, 3);
        Bench.way(p, 0, "hold 9999;");
        Bench.way(p, 1, "hold 1;");
        for (int i = 1; i <= 9; i++) {
            due("10 each run has its own 1000", p.run(0), 999);
            p.run(1);
            p.run(8);
            due("12 spent so far", p.look(13), i);
        }
        p.order(1, 0);
        p.order(3, 1);
        due("12 trials do not count", p.look(13), 9);
    }
}
