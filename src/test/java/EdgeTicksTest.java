/** The edges of a tick and of parts: what is just enough, what is just too little, what lies at a border; cell, look, heat. */
public final class EdgeTicksTest {
    private static final Bench BENCH = new Bench("EdgeTicksTest");
    private static final int NONE = BeamPlate.NONE;
    private static final int MOST_HEAT = 99999999;

    public static void main(String[] args) {
        beamGives();
        mostHeat();
        heatBeyondAnInt();
        flowTowardsZero();
        flowBetweenSidesAlone();
        flowAllAtOnce();
        lossDownwards();
        cutWhenEnough();
        burnWhenEnough();
        burnAheadOfFalling();
        looseOnlyBehindACut();
        heldAtEachBorder();
        partsBySidesAlone();
        fallOrLieOrTip();
        tippedForEver();
        bridgeEdges();
        cellRanges();
        cellConditions();
        lookRanges();
        lookCounts();
        heatRanges();
        BENCH.finish();
    }

    private static void due(String call, long got, long want) {
        BENCH.due(call, got, want);
    }

    private static BeamPlate of(int melt, int lead, int loss, int burn, int wide, int high) {
        BeamPlate p = new BeamPlate();
        p.stuff(0, melt, lead, loss, burn);
        p.plate(wide, high, 0, 9);
        return p;
    }

    /** Gives a cell some heat in one tick; the beam is off then. */
    private static void warm(BeamPlate p, int x, int y, int strength) {
        p.beam(strength, true);
        Bench.run(p, "to " + x + " " + y + "; on; hold 1; off;");
    }

    // "if the BEAM is on, and the CELL under the HEAD is there, it gets STRENGTH of heat (GIVEN)"
    private static void beamGives() {
        BeamPlate p = Bench.still(3, 3);
        Bench.run(p, "hold 3;");
        due("13 nothing is given while the beam is off", p.heat(0), 0);
        due("12 but ticks go by", p.look(0), 3);
        Bench.run(p, "on; hold 1;");
        due("13 given", p.heat(0), 10);
        Bench.run(p, "hold 5;");
        due("13 nothing where the cell is cut", p.heat(0), 10);
        p = Bench.still(5, 5);
        Bench.run(p, Bench.around(2, 2) + "off; to 2 2;");
        due("11 fallen", p.cell(2, 2, 1), 2);
        Bench.run(p, "on; hold 5;");
        due("13 nothing where the cell fell", p.heat(0), 40);
        p = Bench.still(3, 3);
        p.beam(0, true);
        Bench.run(p, "on; hold 9;");
        due("13 a beam of strength 0", p.heat(0), 0);
    }

    /** A plate of cells of which the first has as much heat as may be. */
    private static BeamPlate hottest(int wide, int high) {
        BeamPlate p = of(999, 0, 0, 9999, wide, high);
        p.beam(9999, false);
        Bench.way(p, 0, "on; hold 990; off;");
        // 10 times 990 times 9999 is 98990100, which leaves 1009899: 101 times 9999.
        for (int i = 0; i < 10; i++) {
            p.run(0);
        }
        Bench.run(p, "on; hold 101; off;");
        return p;
    }

    // "99999999 at most are in a CELL, what is above is LOST"
    private static void mostHeat() {
        BeamPlate p = hottest(1, 1);
        due("13 just as much as may be", p.cell(0, 0, 0), MOST_HEAT);
        due("13 nothing is lost", p.heat(2), 0);
        p.beam(1, false);
        Bench.run(p, "on; hold 1; off;");
        due("13 one more is above", p.cell(0, 0, 0), MOST_HEAT);
        due("13 it is lost", p.heat(2), 1);
        due("13 and given", p.heat(0), MOST_HEAT + 1L);
        p.beam(9999, false);
        Bench.run(p, "on; hold 2; off;");
        due("13 all that is above is lost", p.heat(2), 1 + 2 * 9999);
        p.stuff(0, 999, 0, 20, 9999);
        Bench.run(p, "hold 1;");
        due("13 a fifth of it is lost, downwards", p.cell(0, 0, 0), MOST_HEAT - 19999999);
        p = hottest(2, 1);
        p.stuff(0, 999, 20, 0, 9999);
        Bench.run(p, "hold 1;");
        due("13 a fifth is led on", p.cell(1, 0, 0), 19999999);
        due("13 the rest stays", p.cell(0, 0, 0), MOST_HEAT - 19999999);
        due("13 none is lost on the way", p.heat(1), MOST_HEAT);
        p = hottest(1, 1);
        Bench.way(p, 1, "on; hold 1; off;");
        p.beam(9999, true);
        p.run(1);
        due("13 carried off is what a cell may have", p.heat(3), MOST_HEAT);
        due("13 what is above is lost ahead of that", p.heat(2), 9999);
    }

    // Heat is told as a long: none of its sums may wrap around.
    private static void heatBeyondAnInt() {
        BeamPlate p = of(999, 0, 0, 9999, 16, 2);
        p.beam(9999, false);
        Bench.way(p, 0, "on; hold 998;");
        for (int cell = 0; cell < 22; cell++) {
            Bench.run(p, "to " + cell % 16 + " " + cell / 16 + ";");
            for (int i = 0; i < 11; i++) {
                p.run(0);
            }
        }
        long given = 22L * 11 * 998 * 9999;
        due("13 given beyond an int", p.heat(0), given);
        due("13 in all cells beyond an int", p.heat(1), 22L * MOST_HEAT);
        due("13 lost", p.heat(2), given - 22L * MOST_HEAT);
        p.beam(0, true);
        Bench.run(p, "hold 1;");
        due("13 carried beyond an int", p.heat(3), 22L * MOST_HEAT);
        due("13 nothing is left", p.heat(1), 0);
        p = hottest(1, 1);
        p.beam(9999, false);
        for (int i = 0; i < 218; i++) {
            p.run(0);
        }
        due("13 lost beyond an int", p.heat(2), 218L * 990 * 9999);
    }

    // "what the hotter one has more, times LEAD, by 100 towards 0, goes to the other one"
    private static void flowTowardsZero() {
        int[][] sides = {{0, 1, 1, 1}, {2, 1, 1, 1}, {1, 0, 1, 1}, {1, 2, 1, 1}};
        int[][] amounts = {{4, 0}, {5, 1}, {9, 1}, {10, 2}, {99, 19}, {100, 20}};
        for (int[] s : sides) {
            for (int[] a : amounts) {
                BeamPlate p = of(999, 0, 0, 9999, 3, 3);
                warm(p, s[0], s[1], a[0]);
                p.stuff(0, 999, 20, 0, 9999);
                Bench.run(p, "hold 1;");
                due("13 of " + a[0] + " goes to the other one", p.cell(s[2], s[3], 0), a[1]);
                due("13 nothing is lost", p.heat(1), a[0]);
            }
        }
        BeamPlate p = of(999, 0, 0, 9999, 2, 1);
        warm(p, 0, 0, 100);
        warm(p, 1, 0, 96);
        p.stuff(0, 999, 20, 0, 9999);
        Bench.run(p, "hold 1;");
        due("13 4 more are too little", p.cell(0, 0, 0), 100);
        p.stuff(0, 999, 0, 0, 9999);
        warm(p, 1, 0, 9);
        p.stuff(0, 999, 20, 0, 9999);
        Bench.run(p, "hold 1;");
        due("13 the right one has 5 more", p.cell(1, 0, 0), 104);
        due("13 one comes to the left", p.cell(0, 0, 0), 101);
        p = of(999, 1, 0, 9999, 2, 1);
        warm(p, 0, 0, 99);
        due("13 lead 1 of 99", p.cell(1, 0, 0), 0);
        p = of(999, 1, 0, 9999, 2, 1);
        warm(p, 0, 0, 100);
        due("13 lead 1 of 100", p.cell(1, 0, 0), 1);
    }

    // "between each two CELLS beside one another (by sides) that are there": no corners, no way around the border
    private static void flowBetweenSidesAlone() {
        BeamPlate p = of(999, 10, 0, 9999, 3, 3);
        warm(p, 2, 0, 1000);
        due("13 itself", p.cell(2, 0, 0), 800);
        due("13 beside it", p.cell(1, 0, 0), 100);
        due("13 above it", p.cell(2, 1, 0), 100);
        due("13 at its corner", p.cell(1, 1, 0), 0);
        due("13 not around to the next row", p.cell(0, 1, 0), 0);
        due("13 not around to its own row", p.cell(0, 0, 0), 0);
        due("13 not around to the upper border", p.cell(2, 2, 0), 0);
        p = of(999, 10, 0, 9999, 3, 3);
        warm(p, 0, 1, 1000);
        due("13 not around to the row below", p.cell(2, 0, 0), 0);
        due("13 at the left border", p.cell(0, 1, 0), 700);
        p = of(999, 20, 0, 9999, 1, 1);
        warm(p, 0, 0, 1000);
        due("13 a lone cell", p.cell(0, 0, 0), 1000);
        p = Bench.still(3, 1);
        Bench.run(p, "to 1 0; on; hold 1; off;");
        p.stuff(0, 999, 20, 0, 9999);
        warm(p, 0, 0, 900);
        due("13 not over a cell that is cut", p.cell(2, 0, 0), 0);
        due("13 not into it", p.cell(0, 0, 0), 900);
        due("13 a cell that is not there has none", p.cell(1, 0, 0), 0);
        p = Bench.still(5, 5);
        Bench.run(p, Bench.around(2, 2) + "off;");
        p.stuff(0, 999, 20, 0, 9999);
        warm(p, 1, 1, 900);
        due("13 nothing to cells that are cut", p.cell(1, 1, 0), 900 - 2 * 180);
    }

    // "Then all at once"
    private static void flowAllAtOnce() {
        BeamPlate p = of(999, 20, 0, 9999, 4, 1);
        warm(p, 1, 0, 1000);
        due("13 left", p.cell(0, 0, 0), 200);
        due("13 middle", p.cell(1, 0, 0), 600);
        due("13 right", p.cell(2, 0, 0), 200);
        due("13 not two cells in one tick", p.cell(3, 0, 0), 0);
        Bench.run(p, "hold 1;");
        due("13 left, second", p.cell(0, 0, 0), 280);
        due("13 middle, second", p.cell(1, 0, 0), 440);
        due("13 right, second", p.cell(2, 0, 0), 240);
        due("13 last, second", p.cell(3, 0, 0), 40);
        p = of(999, 20, 0, 9999, 3, 3);
        warm(p, 1, 1, 9999);
        due("13 four fifths are led on to four sides", p.cell(1, 1, 0), 9999 - 4 * 1999);
        p = of(999, 20, 0, 9999, 3, 3);
        int[][] four = {{0, 1}, {2, 1}, {1, 0}, {1, 2}};
        p.stuff(0, 999, 0, 0, 9999);
        for (int[] c : four) {
            warm(p, c[0], c[1], 100);
        }
        p.stuff(0, 999, 20, 0, 9999);
        Bench.run(p, "hold 1;");
        due("13 from four sides", p.cell(1, 1, 0), 80);
    }

    // "Then each CELL that is there loses its heat times LOSS by 100 (LOST)": "Quotients go downwards"
    private static void lossDownwards() {
        int[][] cases = {{49, 2, 0}, {50, 2, 1}, {99, 2, 1}, {100, 2, 2}, {99, 1, 0}, {100, 1, 1}, {4, 20, 0}, {5, 20, 1},
            {9, 20, 1}, {9999, 20, 1999}, {9999, 1, 99}, {0, 20, 0}, {1, 20, 0}};
        for (int[] c : cases) {
            BeamPlate p = of(999, 0, c[1], 9999, 1, 1);
            p.beam(c[0], false);
            Bench.run(p, "on; hold 1; off;");
            due("13 lost of " + c[0] + " by " + c[1], p.heat(2), c[2]);
            due("13 left of " + c[0] + " by " + c[1], p.cell(0, 0, 0), c[0] - c[2]);
        }
        // The loss comes behind the flow: 1000 are 900 and 100, then 720 and 80.
        BeamPlate p = of(999, 10, 20, 9999, 2, 1);
        warm(p, 0, 0, 1000);
        due("13 behind the flow", p.cell(0, 0, 0), 720);
        due("13 also what came", p.cell(1, 0, 0), 80);
        due("13 lost of both", p.heat(2), 200);
    }

    // "Then, with GAS on, each CELL that is there and has MELT times THICK or more is CUT", "its heat is CARRIED off"
    private static void cutWhenEnough() {
        for (int thick = 1; thick <= 9; thick++) {
            for (int less = 0; less <= 1; less++) {
                BeamPlate p = new BeamPlate();
                p.stuff(0, 37, 0, 0, 9999);
                p.plate(2, 1, 0, thick);
                p.beam(37 * thick - less, true);
                Bench.run(p, "on; hold 1; off; hold 3;");
                due("11 cut, thick " + thick + " less " + less, p.cell(0, 0, 1), 1 - less);
                due("11 its heat", p.cell(0, 0, 0), less == 0 ? 0 : 37 * thick - 1);
                due("13 carried off", p.heat(3), less == 0 ? 37 * thick : 0);
            }
        }
        // Behind the loss: of 102 there are 100 left, of 101 only 99.
        BeamPlate p = new BeamPlate();
        p.stuff(0, 100, 0, 2, 9999);
        p.plate(1, 1, 0, 1);
        warm(p, 0, 0, 101);
        due("11 behind the loss too little", p.cell(0, 0, 1), 0);
        p.plate(1, 1, 0, 1);
        warm(p, 0, 0, 102);
        due("11 behind the loss enough", p.cell(0, 0, 1), 1);
        due("13 what is carried is what is left", p.heat(3), 100);
        // Behind the flow: the cell beside it is cut by what was led on.
        p.stuff(0, 100, 20, 0, 9999);
        p.plate(2, 1, 0, 1);
        warm(p, 0, 0, 124);
        due("11 124 leave 100", p.cell(0, 0, 1), 1);
        p.plate(2, 1, 0, 1);
        warm(p, 0, 0, 123);
        due("11 123 leave 99", p.cell(0, 0, 1), 0);
        p.plate(2, 1, 0, 1);
        warm(p, 0, 0, 500);
        due("11 both at once", p.look(7), 2);
        p.plate(2, 1, 0, 1);
        p.beam(9999, false);
        Bench.run(p, "on; hold 9; off;");
        due("11 nothing without gas", p.look(7), 0);
        p.beam(0, true);
        Bench.run(p, "hold 1;");
        due("11 gas alone cuts", p.look(7), 2);
    }

    // "Then each CELL that is there and has BURN or more is BURNT (for ever)"
    private static void burnWhenEnough() {
        BeamPlate p = of(999, 0, 0, 60, 2, 1);
        warm(p, 0, 0, 59);
        due("11 59 do not burn", p.cell(0, 0, 2), 0);
        warm(p, 1, 0, 60);
        due("11 60 do", p.cell(1, 0, 2), 1);
        p.stuff(0, 999, 0, 20, 60);
        Bench.run(p, "hold 40;");
        due("11 it is cold again", p.cell(1, 0, 0), 4);
        due("11 burnt for ever", p.cell(1, 0, 2), 1);
        due("12 it counts", p.look(10), 1);
        // Behind the loss: 61 leave 60 and 60 leave 59.
        p = of(999, 0, 2, 60, 2, 1);
        warm(p, 0, 0, 60);
        warm(p, 1, 0, 61);
        due("11 behind the loss too little", p.cell(0, 0, 2), 0);
        due("11 behind the loss enough", p.cell(1, 0, 2), 1);
        // A cell that is cut in the same tick was not burnt by it; one that is left with as much was.
        p = new BeamPlate();
        p.stuff(0, 60, 0, 0, 60);
        p.plate(2, 1, 0, 1);
        warm(p, 0, 0, 60);
        due("11 cut", p.cell(0, 0, 1), 1);
        due("11 and not burnt", p.cell(0, 0, 2), 0);
        due("12 no cell is", p.look(10), 0);
        p.plate(2, 1, 0, 1);
        p.beam(60, false);
        Bench.run(p, "on; hold 1; off;");
        due("11 without gas it is burnt", p.cell(0, 0, 2), 1);
        p.beam(0, true);
        Bench.run(p, "hold 1;");
        due("11 cut then", p.cell(0, 0, 1), 1);
        due("11 it was burnt for ever", p.cell(0, 0, 2), 1);
        due("12 but it is not there", p.look(10), 0);
    }

    // "BURNT ... Then, if some were CUT, parts come loose": what falls may burn in the same tick.
    private static void burnAheadOfFalling() {
        BeamPlate p = Bench.still(5, 5);
        Bench.run(p, "on; to 1 2; hold 1; to 3 2; hold 1; to 2 1; hold 1; off;");
        warm(p, 2, 2, 7);
        due("11 not burnt yet", p.cell(2, 2, 2), 0);
        p.stuff(0, 10, 0, 0, 7);
        warm(p, 2, 3, 10);
        due("11 fallen", p.cell(2, 2, 1), 2);
        due("11 burnt ahead of that", p.cell(2, 2, 2), 1);
        due("11 a fallen one has no heat", p.cell(2, 2, 0), 0);
        due("13 its heat is carried off", p.heat(3), 4 * 10 + 7);
        due("12 burnt, but not there", p.look(10), 0);
    }

    // "Then, if some were CUT, parts come loose."
    private static void looseOnlyBehindACut() {
        BeamPlate p = Bench.still(5, 5);
        p.pitch(2);
        Bench.run(p, Bench.around(2, 2) + "off;");
        due("11 it lies on its slat", p.cell(2, 2, 1), 0);
        p.pitch(3);
        due("11 it lies still as the slats are moved", p.cell(2, 2, 1), 0);
        Bench.run(p, "hold 9;");
        due("11 and while nothing is cut", p.cell(2, 2, 1), 0);
        warm(p, 0, 0, 9);
        due("11 and while a cell is almost cut", p.cell(2, 2, 1), 0);
        warm(p, 4, 4, 10);
        due("11 it falls as some other cell is cut", p.cell(2, 2, 1), 2);
    }

    // "It is HELD, if one of them lies at the PLATE's border."
    private static void heldAtEachBorder() {
        int[][] edges = {{0, 0}, {0, 2}, {0, 4}, {2, 4}, {5, 4}, {5, 2}, {5, 0}, {3, 0}};
        for (int[] e : edges) {
            BeamPlate p = Bench.still(6, 5);
            p.pitch(9);
            Bench.run(p, Bench.around(e[0], e[1]));
            due("11 at the border it is there", p.cell(e[0], e[1], 1), 0);
            due("11 alone", p.cell(e[0], e[1], 3), 1);
            due("11 held", p.cell(e[0], e[1], 4), 1);
            due("12 no part is loose", p.look(12), 0);
        }
        int[][] inner = {{1, 1}, {1, 3}, {4, 1}, {4, 3}};
        for (int[] i : inner) {
            BeamPlate p = Bench.still(6, 5);
            p.pitch(9);
            Bench.run(p, Bench.around(i[0], i[1]));
            due("11 one cell from the border it falls", p.cell(i[0], i[1], 1), 2);
        }
        int[][] thin = {{9, 1}, {1, 9}, {9, 2}, {2, 9}};
        for (int[] t : thin) {
            BeamPlate p = Bench.still(t[0], t[1]);
            p.pitch(9);
            Bench.run(p, Bench.around(t[0] / 2, t[1] / 2));
            due("12 nothing falls from a thin plate", p.look(8), 0);
            due("12 nothing is loose", p.look(12), 0);
        }
        // One cell at the border holds a part of many.
        BeamPlate p = Bench.still(7, 6);
        p.pitch(9);
        Bench.run(p, "speed 1; on; to 1 1; hold 1; go north 3; go east 4; go south 3; go west 2;");
        due("11 not cut off yet", p.cell(3, 2, 3), 42 - 13);
        due("11 held by a neck", p.cell(3, 2, 4), 1);
        Bench.run(p, "to 2 1; hold 1;");
        due("11 cut off", p.cell(3, 2, 1), 2);
        due("12 all six", p.look(8), 6);
    }

    // "A PART is all CELLS that are there and hang together by sides."
    private static void partsBySidesAlone() {
        BeamPlate p = Bench.still(2, 2);
        Bench.run(p, "on; hold 1; to 1 1; hold 1; off;");
        due("12 corners do not hang together", p.look(11), 2);
        due("11 one cell", p.cell(1, 0, 3), 1);
        p = Bench.still(3, 2);
        Bench.run(p, "on; to 1 0; hold 1; to 1 1; hold 1; off;");
        due("12 not around the border", p.look(11), 2);
        due("11 the right end of a row and the left end of the next", p.cell(2, 0, 3), 2);
        p = Bench.still(1, 1);
        due("12 one cell is one part", p.look(11), 1);
        due("11 held", p.cell(0, 0, 4), 1);
        Bench.run(p, "on; hold 1;");
        due("12 none is left", p.look(11), 0);
        due("12 none is there", p.look(6), 0);
        due("11 no part of what is not there", p.cell(0, 0, 3), 0);
        due("11 nor is it held", p.cell(0, 0, 4), 0);
        p = Bench.still(16, 12);
        due("11 the largest part", p.cell(15, 11, 3), 192);
        // Every second cell cut: the inner ones that are left fall, but for the one on a slat.
        p = Bench.still(5, 5);
        p.pitch(2);
        for (int i = 1; i < 25; i += 2) {
            Bench.run(p, "to " + i % 5 + " " + i / 5 + "; on; hold 1; off;");
        }
        due("12 cut", p.look(7), 12);
        due("12 fallen", p.look(8), 4);
        due("12 each of the others is a part", p.look(11), 9);
        due("12 one of them is loose", p.look(12), 1);
        due("11 that one", p.cell(2, 2, 4), 0);
    }

    /** A row of cells from x on, cut out of the middle of a plate. */
    private static BeamPlate rowOf(int x, int n, int pitch) {
        BeamPlate p = Bench.still(16, 5);
        p.pitch(pitch);
        Bench.run(p, "on; speed 1; to " + (x - 1) + " 1; hold 1; go east " + (n + 1) + "; go north 2; go west " + (n + 1)
            + "; go south 1; off;");
        return p;
    }

    private static void row(int x, int n, int pitch, int want) {
        BeamPlate p = rowOf(x, n, pitch);
        String who = n + " cells from " + x + " on slats of " + pitch;
        for (int i = 0; i < n; i++) {
            due("11 " + who, p.cell(x + i, 2, 1), want);
        }
        due("12 tipped of " + who, p.look(9), want == 3 ? n : 0);
        due("12 fallen of " + who, p.look(8), want == 2 ? n : 0);
        due("12 loose of " + who, p.look(12), want == 2 ? 0 : 1);
    }

    // "If none of them lies on a SLAT it FALLS"; "lies still, if it has a CELL on a SLAT with x times n up to X, and one with X
    // or more; else it is TIPPED"
    private static void fallOrLieOrTip() {
        // With one slat under it a row lies still only if the slat is just under its middle.
        row(6, 1, 7, 2);
        row(7, 1, 7, 0);
        row(8, 1, 7, 2);
        row(5, 2, 7, 2);
        row(6, 2, 7, 3);
        row(7, 2, 7, 3);
        row(8, 2, 7, 2);
        row(4, 3, 7, 2);
        row(5, 3, 7, 3);
        row(6, 3, 7, 0);
        row(7, 3, 7, 3);
        row(8, 3, 7, 2);
        row(5, 4, 7, 3);
        row(6, 4, 7, 3);
        row(4, 7, 7, 0);
        row(3, 7, 7, 3);
        row(5, 7, 7, 3);
        // With two slats its middle has to lie between them, or just above one.
        row(2, 4, 3, 3);
        row(3, 4, 3, 0);
        row(4, 4, 3, 3);
        row(3, 5, 4, 3);
        row(4, 5, 4, 0);
        row(3, 6, 4, 0);
        row(2, 7, 4, 0);
        row(1, 8, 4, 0);
        row(1, 7, 4, 0);
        row(1, 6, 4, 3);
        row(1, 9, 4, 0);
        row(2, 10, 4, 0);
        row(1, 14, 9, 3);
        row(2, 13, 9, 3);
        row(3, 12, 9, 3);
        row(4, 11, 9, 0);
        // The part's cells count each, also those with the same x: a column of three at 4 with one cell at 5.
        BeamPlate p = Bench.still(9, 7);
        Bench.run(p, "on; speed 1; to 3 1; hold 1; go north 4; go east 1; to 4 1; hold 1; go east 1; go north 1; go east 1; "
            + "go north 2; go west 1; go north 1; off;");
        due("11 four cells", p.cell(4, 2, 3), 4);
        due("11 with their middle right of the slat", p.cell(4, 2, 1), 3);
        p = Bench.still(9, 7);
        Bench.run(p, "on; speed 1; to 3 1; hold 1; go north 4; go east 1; to 4 1; hold 1; go east 1; go north 4; off;");
        due("11 three cells above one another", p.cell(4, 2, 3), 3);
        due("11 with their middle on the slat", p.cell(4, 2, 1), 0);
    }

    // "else it is TIPPED (each of its CELLS; for ever)"
    private static void tippedForEver() {
        BeamPlate p = rowOf(6, 4, 7);
        due("11 tipped", p.cell(6, 2, 1), 3);
        Bench.run(p, "to 9 2; on; hold 1; off;");
        due("11 three left, with their middle on the slat", p.cell(6, 2, 3), 3);
        due("11 but tipped for ever", p.cell(6, 2, 1), 3);
        due("11 the cut one is cut", p.cell(9, 2, 1), 1);
        p.pitch(8);
        Bench.run(p, "to 0 0; on; hold 1; off;");
        due("11 still tipped on the other slat", p.cell(8, 2, 1), 3);
        p.pitch(9);
        Bench.run(p, "to 1 0; on; hold 1; off;");
        due("11 fallen from where it was tipped", p.cell(8, 2, 1), 2);
        due("12 fallen", p.look(8), 3);
        p = rowOf(6, 3, 7);
        due("11 lies still", p.cell(6, 2, 1), 0);
        Bench.run(p, "to 6 2; on; hold 1; off;");
        due("11 tipped as a cell is cut off", p.cell(8, 2, 1), 3);
        due("12 two of it", p.look(9), 2);
    }

    // "the fewest CELLS that are not there through which one comes ... to a PART that is HELD, or to the border, these last ones
    // counted; through other PARTS it costs nothing. 0 if it is HELD."
    private static void bridgeEdges() {
        BeamPlate p = Bench.still(5, 5);
        p.pitch(2);
        due("11 of a whole plate", p.cell(2, 2, 5), 0);
        Bench.run(p, "on; to 1 2; hold 1; to 3 2; hold 1; to 2 1; hold 1; off;");
        due("11 still held", p.cell(2, 2, 5), 0);
        Bench.run(p, "to 2 3; on; hold 1; off;");
        due("11 over one cell", p.cell(2, 2, 5), 1);
        due("11 of what is not there", p.cell(2, 3, 5), NONE);
        // Each cell of the part may be its bridge's foot.
        p = rowOf(2, 9, 2);
        for (int x = 2; x <= 10; x++) {
            due("11 the same for each cell", p.cell(x, 2, 5), 1);
        }
        Bench.run(p, "speed 1; on; to 0 0; hold 1; go east 14; to 0 4; hold 1; go east 14; to 0 1; hold 1; go north 2; "
            + "to 12 1; hold 1; go north 2; to 12 0; hold 1; off;");
        due("11 the border's own cell counts", p.cell(2, 2, 5), 2);
        // A cell that fell is as one that was cut: over 7, 5, the fallen 6, 5 and 5, 5 it is one less than any other way.
        p = Bench.still(16, 12);
        p.pitch(8);
        for (int y = 1; y <= 9; y++) {
            String cuts = y == 5 ? "to 7 5; hold 1; to 9 5; hold 1; go east 3;" : "go east 7;";
            Bench.run(p, "speed 1; on; to 5 " + y + "; hold 1; " + cuts + " off;");
        }
        due("11 fallen", p.cell(6, 5, 1), 2);
        due("11 on its slat", p.cell(8, 5, 1), 0);
        due("11 over a fallen one", p.cell(8, 5, 5), 3);
        // With no part between them, two rings count two.
        p = Bench.still(7, 7);
        p.pitch(3);
        Bench.run(p, "speed 1; on; to 1 1; hold 1; go east 4; go north 4; go west 4; go south 4; to 2 2; hold 1; go east 2; "
            + "go north 2; go west 2; go south 1; off;");
        due("11 two rings", p.cell(3, 3, 3), 1);
        due("11 over two cells", p.cell(3, 3, 5), 2);
        throughParts();
    }

    // A loose ring around a loose cell: from the inner one over the ring, which costs nothing, to what is held.
    private static void throughParts() {
        BeamPlate p = Bench.still(12, 9);
        p.pitch(2);
        Bench.run(p, "speed 1; on; to 1 1; hold 1; go east 6; go north 6; go west 6; go south 5; off;");
        due("11 a block", p.cell(4, 4, 3), 25);
        due("11 its bridge", p.cell(4, 4, 5), 1);
        Bench.run(p, "speed 1; on; to 3 3; hold 1; go east 2; go north 2; go west 2; go south 1; off;");
        due("12 two loose parts", p.look(12), 2);
        due("11 the ring", p.cell(2, 2, 3), 16);
        due("11 the ring's bridge", p.cell(2, 2, 5), 1);
        due("11 the middle", p.cell(4, 4, 3), 1);
        due("11 the middle's bridge", p.cell(4, 4, 5), 2);
        // Without the frame that was held the border itself is one cell farther.
        Bench.run(p, "speed 1; on; to 0 0; hold 1; go east 11; go north 8; go west 11; go south 8; off;");
        Bench.run(p, "speed 1; on; to 8 0; go north 8; off;");
        due("11 the ring's bridge to the border", p.cell(2, 2, 5), 2);
        due("11 the middle's bridge to the border", p.cell(4, 4, 5), 3);
    }

    // Promise 11: "NONE if there is no such CELL, or another what"
    private static void cellRanges() {
        BeamPlate none = new BeamPlate();
        BeamPlate p = Bench.still(4, 3);
        int[][] beyond = {{-1, 0}, {4, 0}, {0, -1}, {0, 3}, {4, 3}, {-1, -1}, {Integer.MIN_VALUE, 0}, {0, Integer.MIN_VALUE},
            {Integer.MAX_VALUE, 0}, {0, Integer.MAX_VALUE}, {-4, 1}, {8, -1}, {1 << 30, 4}, {0, 1 << 30}};
        for (int what = 0; what <= 5; what++) {
            due("11 without a plate", none.cell(0, 0, what), NONE);
            for (int[] b : beyond) {
                due("11 no cell " + b[0] + " " + b[1], p.cell(b[0], b[1], what), NONE);
            }
        }
        int[] others = {-1, 6, 7, Integer.MIN_VALUE, Integer.MAX_VALUE};
        for (int what : others) {
            due("11 what " + what, p.cell(0, 0, what), NONE);
            due("11 of no cell", p.cell(4, 0, what), NONE);
        }
    }

    // Promise 11: "0 it is there, 1 CUT, 2 fallen, 3 TIPPED"; "(0 if it is not there)"; "(NONE if it is not there)"
    private static void cellConditions() {
        BeamPlate p = rowOf(6, 2, 7);
        int[][] want = {{0, 0, 0, 0, 1, 0}, {0, 1, 0, 0, 0, NONE}, {0, 3, 0, 2, 0, 1}};
        int[][] where = {{0, 0}, {5, 2}, {6, 2}};
        for (int i = 0; i < where.length; i++) {
            for (int what = 0; what <= 5; what++) {
                int there = what == 3 && i == 0 ? 80 - 2 - 10 : want[i][what];
                due("11 what " + what + " of cell " + i, p.cell(where[i][0], where[i][1], what), there);
            }
        }
        p = rowOf(8, 2, 7);
        int[] fallen = {0, 2, 0, 0, 0, NONE};
        for (int what = 0; what <= 5; what++) {
            due("11 what " + what + " of a fallen one", p.cell(9, 2, what), fallen[what]);
        }
    }

    // Promise 12: "0 for all without a PLATE; NONE for another what"
    private static void lookRanges() {
        BeamPlate p = new BeamPlate();
        int[] others = {-1, 14, 15, Integer.MIN_VALUE, Integer.MAX_VALUE};
        for (int round = 0; round < 2; round++) {
            for (int what : others) {
                due("12 what " + what, p.look(what), NONE);
            }
            for (int what = 0; what <= 13 && round == 0; what++) {
                due("12 without a plate", p.look(what), 0);
            }
            p.plate(16, 12, 0, 1);
        }
        int[] fresh = {0, 0, 0, 0, 5, 0, 192, 0, 0, 0, 0, 1, 0, 0};
        for (int what = 0; what <= 13; what++) {
            due("12 of a new plate " + what, p.look(what), fresh[what]);
        }
    }

    // Promise 12: every cell is there, cut or fallen; all cells, and none.
    private static void lookCounts() {
        BeamPlate p = Bench.still(3, 3);
        p.stuff(0, 10, 0, 0, 5);
        p.beam(5, true);
        for (int i = 0; i < 9; i++) {
            Bench.run(p, "off; to " + i % 3 + " " + i / 3 + "; on; hold 1;");
            due("12 burnt", p.look(10), i + 1);
        }
        p.beam(10, true);
        for (int i = 0; i < 9; i++) {
            Bench.run(p, "off; to " + i % 3 + " " + i / 3 + "; on; hold 1;");
            due("12 all are counted", p.look(6) + p.look(7) + p.look(8), 9);
            due("12 burnt that are there", p.look(10), p.look(6));
        }
        due("12 none is there", p.look(6), 0);
        due("12 all are cut, but for the middle", p.look(7) + p.look(8), 9);
        due("12 no part", p.look(11), 0);
        due("12 none loose", p.look(12), 0);
    }

    // Promise 13: "what 0 GIVEN, 1 in all CELLS, 2 LOST, 3 CARRIED off. NONE for another what."
    private static void heatRanges() {
        BeamPlate p = new BeamPlate();
        int[] others = {-1, 4, 5, Integer.MIN_VALUE, Integer.MAX_VALUE};
        for (int round = 0; round < 2; round++) {
            for (int what : others) {
                due("13 what " + what, p.heat(what), NONE);
            }
            for (int what = 0; what <= 3; what++) {
                due("13 nothing yet", p.heat(what), 0);
            }
            p.plate(2, 1, 0, 1);
        }
        Bench.run(p, "on; hold 3;");
        due("13 what is given is somewhere", p.heat(0), p.heat(1) + p.heat(2) + p.heat(3));
        p.plate(2, 1, 0, 1);
        for (int what = 0; what <= 3; what++) {
            due("13 a new plate has none", p.heat(what), 0);
        }
        // The first and the last cell of the largest plate count too.
        p = of(999, 0, 0, 9999, 16, 12);
        due("13 of the largest", p.heat(1), 0);
        warm(p, 15, 11, 9);
        due("13 its last cell", p.heat(1), 9);
        warm(p, 0, 0, 20);
        due("13 its first cell", p.heat(1), 29);
    }
}
