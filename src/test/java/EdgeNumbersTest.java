import java.util.function.Function;

/** The ranges that the document names, at both of their ends and beyond; and that a refused call does nothing. */
public final class EdgeNumbersTest {
    private static final Bench BENCH = new Bench("EdgeNumbersTest");
    private static final int NONE = BeamPlate.NONE;

    /** A call with some numbers: whether it was taken. */
    private interface Call {
        boolean taken(BeamPlate p, int[] numbers);
    }

    public static void main(String[] args) {
        stuffRanges();
        stuffEnds();
        plateRanges();
        plateEnds();
        beamRange();
        pitchRange();
        tapeFull();
        tapeBytes();
        tapeEnds();
        kindRanges();
        kindsFull();
        fillRanges();
        fillEdges();
        testRanges();
        testDays();
        testsFull();
        knownRanges();
        knownEdges();
        sparkEdges();
        lostRanges();
        lostEdges();
        BENCH.finish();
    }

    private static void due(String call, long got, long want) {
        BENCH.due(call, got, want);
    }

    private static void yes(String call, boolean got) {
        BENCH.yes(call, got);
    }

    private static void no(String call, boolean got) {
        BENCH.no(call, got);
    }

    /** One of a call's numbers at the ends of its range is taken; beyond it nothing is done, which the look shows. */
    private static void range(String name, int[] usual, int at, int[] ends, Call call, Function<BeamPlate, String> look) {
        int[] right = {ends[0], ends[1], (ends[0] + ends[1]) / 2};
        int[] wrong = {ends[0] - 1, ends[1] + 1, Integer.MIN_VALUE, Integer.MAX_VALUE};
        for (int number : right) {
            yes(name + " " + number, call.taken(new BeamPlate(), with(usual, at, number)));
        }
        String untouched = look.apply(new BeamPlate());
        for (int number : wrong) {
            BeamPlate p = new BeamPlate();
            no(name + " " + number, call.taken(p, with(usual, at, number)));
            yes(name + " " + number + " does nothing", look.apply(p).equals(untouched));
        }
    }

    private static int[] with(int[] usual, int at, int number) {
        int[] numbers = usual.clone();
        numbers[at] = number;
        return numbers;
    }

    /** What two cells of each stuff are like behind some ticks of some beams. */
    private static String stuffsShown(BeamPlate p) {
        StringBuilder all = new StringBuilder();
        int[] strengths = {30, 61, 70, 103, 150, 600};
        for (int k = 0; k < 4; k++) {
            for (int strength : strengths) {
                p.plate(2, 1, k, 1);
                p.beam(strength, true);
                Bench.run(p, "on; hold 2; off; hold 1;");
                all.append(Bench.seen(p, 2, 1));
            }
        }
        return all.toString();
    }

    /** The heat of one cell behind one tick of a beam (0), whether it is cut (1), or burnt (2). */
    private static int behindOneTick(int[] stuff, int thick, int strength, boolean gas, int what) {
        BeamPlate p = new BeamPlate();
        p.stuff(0, stuff[0], stuff[1], stuff[2], stuff[3]);
        p.plate(2, 1, 0, thick);
        p.beam(strength, gas);
        Bench.run(p, "on; hold 1;");
        return p.cell(0, 0, what);
    }

    // Promise 2: "STUFFS 0 .. 3 have MELT 1 .. 999, LEAD 0 .. 20, LOSS 0 .. 20, BURN 1 .. 9999"; "false, and nothing is done"
    private static void stuffRanges() {
        Call call = (p, n) -> p.stuff(n[0], n[1], n[2], n[3], n[4]);
        int[] usual = {0, 500, 0, 20, 9000};
        int[][] ends = {{0, 3}, {1, 999}, {0, 20}, {0, 20}, {1, 9999}};
        String[] names = {"2 stuff", "2 melt", "2 lead", "2 loss", "2 burn"};
        for (int at = 0; at < names.length; at++) {
            range(names[at], usual, at, ends[at], call, EdgeNumbersTest::stuffsShown);
        }
        BeamPlate p = new BeamPlate();
        String first = stuffsShown(p);
        yes("2 all wrong at once", !p.stuff(4, 0, 21, 21, 0) && stuffsShown(p).equals(first));
        for (int k = 0; k < 4; k++) {
            yes("2 one stuff", p.stuff(k, 500, 0, 20, 9000));
            no("2 it is another one then", stuffsShown(p).equals(first));
            p.stuff(k, 100, 10, 2, 60);
            yes("2 and no other stuff was touched", stuffsShown(p).equals(first));
        }
    }

    // Promise 2: the least and the greatest numbers of a stuff are those that the ticks go by.
    private static void stuffEnds() {
        due("2 melt 1 is reached by 1", behindOneTick(new int[] {1, 0, 0, 9999}, 1, 1, true, 1), 1);
        due("2 melt 1 is not reached by 0", behindOneTick(new int[] {1, 0, 0, 9999}, 1, 0, true, 1), 0);
        due("2 melt 999 is reached by 999", behindOneTick(new int[] {999, 0, 0, 9999}, 1, 999, true, 1), 1);
        due("2 melt 999 is not reached by 998", behindOneTick(new int[] {999, 0, 0, 9999}, 1, 998, true, 1), 0);
        due("2 lead 0 leads nothing", behindOneTick(new int[] {999, 0, 0, 9999}, 9, 5000, true, 0), 5000);
        due("2 lead 20 leads a fifth", behindOneTick(new int[] {999, 20, 0, 9999}, 9, 5000, true, 0), 4000);
        due("2 loss 0 loses nothing", behindOneTick(new int[] {999, 0, 0, 9999}, 9, 5000, true, 0), 5000);
        due("2 loss 20 loses a fifth", behindOneTick(new int[] {999, 0, 20, 9999}, 9, 5000, true, 0), 4000);
        due("2 burn 1 is reached by 1", behindOneTick(new int[] {999, 0, 0, 1}, 1, 1, true, 2), 1);
        due("2 burn 1 is not reached by 0", behindOneTick(new int[] {999, 0, 0, 1}, 1, 0, true, 2), 0);
        due("2 burn 9999 is reached by 9999", behindOneTick(new int[] {999, 0, 0, 9999}, 9, 9999, false, 2), 1);
        due("2 burn 9999 is not reached by 9998", behindOneTick(new int[] {999, 0, 0, 9999}, 9, 9998, false, 2), 0);
    }

    // Promise 3: "A PLATE has 1 .. 16 by 1 .. 12 CELLS, a STUFF, THICK 1 .. 9"; "(At first none.)"; "nothing is done"
    private static void plateRanges() {
        Call call = (p, n) -> p.plate(n[0], n[1], n[2], n[3]);
        int[] usual = {4, 3, 1, 2};
        int[][] ends = {{1, 16}, {1, 12}, {0, 3}, {1, 9}};
        String[] names = {"3 wide", "3 high", "3 stuff", "3 thick"};
        for (int at = 0; at < names.length; at++) {
            range(names[at], usual, at, ends[at], call, p -> Bench.seen(p, 4, 3));
            for (int wrong : new int[] {ends[at][0] - 1, ends[at][1] + 1}) {
                BeamPlate p = Bench.still(5, 5);
                Bench.run(p, "speed 3; go east 2; on; go north 2; go east 1;");
                String before = Bench.seen(p, 5, 5);
                no(names[at], call.taken(p, with(usual, at, wrong)));
                yes(names[at] + " keeps the plate as it was", Bench.seen(p, 5, 5).equals(before));
            }
        }
        BeamPlate p = new BeamPlate();
        p.plate(0, 1, 0, 1);
        due("3 a refused one is none", p.run(0), NONE);
        due("3 nor has it a speed", p.look(4), 0);
    }

    // Promise 3: the least and the largest plate; "a new one is whole and cold, the HEAD at 0, 0, the BEAM off, SPEED 5, TICK 0"
    private static void plateEnds() {
        int[][] sizes = {{1, 1}, {16, 1}, {1, 12}, {16, 12}};
        for (int[] s : sizes) {
            BeamPlate p = Bench.still(s[0], s[1]);
            due("3 cells", p.look(6), s[0] * s[1]);
            due("3 the last cell", p.cell(s[0] - 1, s[1] - 1, 0), 0);
            due("3 right of it", p.cell(s[0], s[1] - 1, 0), NONE);
            due("3 above it", p.cell(s[0] - 1, s[1], 0), NONE);
            due("3 one part", p.look(11), 1);
            due("3 as large", p.cell(0, 0, 3), s[0] * s[1]);
        }
        due("3 thick 9 times melt 999 is reached", behindOneTick(new int[] {999, 0, 0, 9999}, 9, 8991, true, 1), 1);
        due("3 thick 9 times melt 999 is not", behindOneTick(new int[] {999, 0, 0, 9999}, 9, 8990, true, 1), 0);
        BeamPlate used = Bench.still(4, 4);
        used.beam(6, true);
        Bench.run(used, "speed 2; on; hold 9; go east 3; go north 2; hold 9999;");
        yes("3 anew", used.plate(4, 4, 0, 1));
        yes("3 a new one is as the first one was", Bench.seen(used, 4, 4).equals(Bench.seen(Bench.still(4, 4), 4, 4)));
        due("3 a smaller one has no other cells", used.plate(2, 2, 0, 1) ? used.cell(2, 2, 1) : 9, NONE);
        due("3 a larger one is whole", used.plate(5, 5, 0, 1) ? used.look(6) : 9, 25);
    }

    private static String beamShown(BeamPlate p) {
        p.plate(2, 2, 0, 1);
        Bench.run(p, "on; hold 2;");
        return Bench.seen(p, 2, 2);
    }

    // Promise 4: "The BEAM has a STRENGTH 0 .. 9999 (100 at first), GAS is on or not (on at first)"; "nothing is done"
    private static void beamRange() {
        range("4 strength", new int[] {7}, 0, new int[] {0, 9999}, (p, n) -> p.beam(n[0], false), EdgeNumbersTest::beamShown);
        BeamPlate p = new BeamPlate();
        p.beam(100, true);
        yes("4 at first", beamShown(p).equals(beamShown(new BeamPlate())));
        p.beam(5000, false);
        String before = beamShown(p);
        no("4 gas is not put on by a refused one", p.beam(10000, true));
        yes("4 all is as it was", beamShown(p).equals(before));
        due("4 strength 0 gives nothing", behindOneTick(new int[] {1, 0, 0, 1}, 1, 0, true, 0), 0);
        due("4 strength 9999", behindOneTick(new int[] {999, 0, 0, 9999}, 9, 9999, false, 0), 9999);
    }

    /** Which lone cells within the second row of a plate did not fall. */
    private static String slatsShown(BeamPlate p) {
        StringBuilder all = new StringBuilder();
        p.stuff(0, 10, 0, 0, 9999);
        p.beam(10, true);
        for (int x = 1; x <= 10; x++) {
            p.plate(12, 3, 0, 1);
            Bench.run(p, Bench.around(x, 1));
            all.append(p.cell(x, 1, 1) == 0 ? x + " " : "");
        }
        return all.toString();
    }

    // Promise 5: "SLATS lie under CELLS whose x is left 0 by the PITCH 2 .. 9 (4 at first)"; "false if it can't be"
    private static void pitchRange() {
        range("5 pitch", new int[] {4}, 0, new int[] {2, 9}, (p, n) -> p.pitch(n[0]), EdgeNumbersTest::slatsShown);
        String[] held = {"4 8 ", "2 4 6 8 10 ", "3 6 9 ", "4 8 ", "5 10 ", "6 ", "7 ", "8 ", "9 "};
        for (int n = 1; n <= 9; n++) {
            BeamPlate p = new BeamPlate();
            p.pitch(n);
            yes("5 slats " + n, slatsShown(p).equals(held[n - 1]));
        }
        BeamPlate p = new BeamPlate();
        p.pitch(9);
        no("5 a refused one", p.pitch(10));
        yes("5 leaves the slats", slatsShown(p).equals("9 "));
    }

    // Promise 6: "NONE, and nothing comes, if there would be more than 400"
    private static void tapeFull() {
        for (int size = 379; size <= 400; size++) {
            BeamPlate p = new BeamPlate();
            for (int i = 0; i < 20; i++) {
                due("6 as many as it has", p.feed(-1, -1, -1, -1, -1), 20 * (i + 1));
            }
            p.end(size);
            int want = size <= 380 ? size + 20 : NONE;
            due("6 twenty more than " + size, p.feed(0, 0, 0, 0, 0), want);
            due("6 once more", p.feed(0, 0, 0, 0, 0), NONE);
            no("6 no more than that", p.end((want == NONE ? size : want) + 1));
            due("6 that many", p.sparks(), want == NONE ? size : want);
            due("6 what came", p.lost(1, 20), want == NONE ? NONE : size);
            due("6 nothing else came", p.lost(1, 1), want == NONE ? NONE : size);
        }
    }

    // Promise 6: "Twenty bytes come behind the TAPE, of each number the highest first"
    private static void tapeBytes() {
        int[] five = {0x00010203, 0x04050607, 0x08090a0b, 0x0c0d0e0f, 0x10111213};
        for (int place = 0; place < 20; place++) {
            BeamPlate p = new BeamPlate();
            p.feed(five[0], five[1], five[2], five[3], five[4]);
            p.end(place + 1);
            due("6 bytes", p.sparks(), place + 1);
            due("6 all below the next", p.lost(place + 1, place + 1), 0);
            due("6 the last is the greatest", p.lost(place, place + 1), NONE);
        }
        int[] bytes = {0, 1, 127, 128, 254, 255};
        for (int b : bytes) {
            for (int shift = 0; shift <= 24; shift += 8) {
                BeamPlate p = new BeamPlate();
                int number = -1 ^ (255 ^ b) << shift;
                p.feed(-1, -1, number, -1, -1);
                p.sparks();
                due("6 byte " + b + " above its bound", p.lost(b, 1), NONE);
                due("6 byte " + b, p.lost(b + 1, 1), b == 255 ? 0 : 8 + 3 - shift / 8);
            }
        }
    }

    // Promise 7: "false, changing nothing, if it has not so many, or n is below 0"
    private static void tapeEnds() {
        BeamPlate p = new BeamPlate();
        yes("7 an empty one has its first 0", p.end(0));
        int[] wrong = {1, 20, 400, -1, Integer.MIN_VALUE, Integer.MAX_VALUE};
        for (int n : wrong) {
            no("7 an empty one has not " + n, p.end(n));
        }
        due("7 it is still empty", p.sparks(), 0);
        int[] sizes = {20, 1, 19, 0};
        for (int size : sizes) {
            p.feed(-1, -1, -1, -1, -1);
            yes("7 to " + size, p.end(size));
            no("7 one more than " + size, p.end(size + 1));
            no("7 one below 0", p.end(-1));
            no("7 the least", p.end(Integer.MIN_VALUE));
            no("7 the greatest", p.end(Integer.MAX_VALUE));
            yes("7 just as many", p.end(size));
            due("7 nothing was changed", p.sparks(), size);
        }
        for (int i = 0; i < 20; i++) {
            p.feed(-1, -1, -1, -1, -1);
        }
        no("7 401 of a full one", p.end(401));
        yes("7 all of a full one", p.end(400));
        yes("7 all but one", p.end(399));
        no("7 not back", p.end(400));
        due("7 all but one", p.sparks(), 399);
    }

    // Promise 16: "a breadth and a height 1 .. 40, a worth 0 .. 999"; "NONE if one can't be"
    private static void kindRanges() {
        Call call = (p, n) -> p.kind(n[0], n[1], n[2]) == 0;
        int[][] ends = {{1, 40}, {1, 40}, {0, 999}};
        String[] names = {"16 wide", "16 high", "16 worth"};
        for (int at = 0; at < names.length; at++) {
            range(names[at], new int[] {3, 2, 5}, at, ends[at], call, EdgeNumbersTest::fillShown);
        }
        int[][] wrong = {{0, 1, 1}, {41, 1, 1}, {1, 0, 1}, {1, 41, 1}, {1, 1, -1}, {1, 1, 1000}};
        BeamPlate p = new BeamPlate();
        for (int number = 0; number < 6; number++) {
            int[] w = wrong[number];
            due("16 a refused one is NONE", p.kind(w[0], w[1], w[2]), NONE);
            due("16 and has no number", p.kind(2, 2, number), number);
        }
        due("16 the greatest worth of six", p.fill(2, 2), 5);
    }

    private static String fillShown(BeamPlate p) {
        StringBuilder all = new StringBuilder();
        for (int wide = 0; wide <= 8; wide++) {
            for (int high = 0; high <= 8; high++) {
                all.append(p.fill(wide, high)).append(' ');
            }
        }
        return all.append(p.fill(40, 40)).toString();
    }

    // Promise 16: "KINDS 0 .. 5 of oblongs as they come"; "NONE if there are six"
    private static void kindsFull() {
        BeamPlate p = new BeamPlate();
        for (int number = 0; number < 6; number++) {
            due("16 its number", p.kind(40 - number, 40, 10 + number), number);
        }
        String six = fillShown(p);
        for (int i = 0; i < 3; i++) {
            due("16 there are six", p.kind(1, 1, 999), NONE);
        }
        yes("16 a seventh is not there", fillShown(p).equals(six));
        due("16 the sixth is", p.fill(35, 40), 15);
        due("16 the first is", p.fill(40, 40), 15);
    }

    // Promise 17: "FILLING an oblong 0 .. 40 by 0 .. 40"; "NONE if one can't be"
    private static void fillRanges() {
        BeamPlate p = new BeamPlate();
        p.kind(1, 1, 999);
        int[] wrong = {-1, 41, Integer.MIN_VALUE, Integer.MAX_VALUE};
        int[] right = {0, 1, 39, 40};
        for (int w : wrong) {
            for (int r : right) {
                due("17 wide " + w, p.fill(w, r), NONE);
                due("17 high " + w, p.fill(r, w), NONE);
            }
            due("17 both " + w, p.fill(w, w), NONE);
        }
        for (int wide : right) {
            for (int high : right) {
                due("17 " + wide + " by " + high, p.fill(wide, high), wide * high * 999);
            }
        }
    }

    // Promise 17: "into two oblongs of whole sides, or left over (worth 0), or taken as a KIND that is just as large"
    private static void fillEdges() {
        BeamPlate p = new BeamPlate();
        due("17 without a kind", p.fill(40, 40), 0);
        p.kind(7, 5, 100);
        due("17 just as large", p.fill(7, 5), 100);
        due("17 turned", p.fill(5, 7), 100);
        due("17 a little too narrow", p.fill(6, 5), 0);
        due("17 a little too low", p.fill(7, 4), 0);
        due("17 too low, turned", p.fill(5, 6), 0);
        due("17 what is above is left over", p.fill(8, 6), 100);
        due("17 two side by side", p.fill(14, 5), 200);
        due("17 two almost", p.fill(13, 5), 100);
        due("17 two one above the other", p.fill(7, 10), 200);
        due("17 two turned side by side", p.fill(10, 7), 200);
        due("17 two turned almost", p.fill(9, 7), 100);
        due("17 one upright above two turned", p.fill(10, 12), 300);
        due("17 one upright above two turned, almost", p.fill(10, 11), 200);
        p.kind(7, 5, 0);
        due("17 a kind of worth 0 takes nothing away", p.fill(7, 5), 100);
        p.kind(14, 5, 199);
        due("17 cut, as it is worth more", p.fill(14, 5), 200);
        p.kind(5, 14, 201);
        due("17 taken whole, as it is worth more", p.fill(14, 5), 201);
        due("17 both sides doubled", p.fill(14, 10), 402);
        BeamPlate q = new BeamPlate();
        q.kind(40, 40, 999);
        due("17 the largest kind", q.fill(40, 40), 999);
        due("17 too narrow for it", q.fill(39, 40), 0);
        due("17 too low for it", q.fill(40, 39), 0);
        q.kind(40, 20, 500);
        due("17 the largest, cut in two", q.fill(40, 40), 1000);
        due("17 nothing by forty", p.fill(0, 40), 0);
        due("17 nothing at all", p.fill(0, 0), 0);
    }

    private static String knownShown(BeamPlate p) {
        StringBuilder all = new StringBuilder();
        int[] days = {0, 5, 999};
        for (int stuff = 0; stuff < 4; stuff++) {
            for (int day : days) {
                for (int what = 0; what <= 3; what++) {
                    all.append(p.known(stuff, day, what)).append(' ');
                }
            }
        }
        // A day that a refused telling had put on would now bar this one.
        return all.append(p.test(0, 1, false, 0)).toString();
    }

    // Promise 18: "told on a DAY (0 .. 999)"; "a heat 1 .. 9999"; "false, and nothing is done, if one can't be"
    private static void testRanges() {
        int[] usual = {2, 300, 5};
        int[][] ends = {{0, 3}, {1, 9999}, {0, 999}};
        String[] names = {"18 stuff", "18 heat", "18 day"};
        for (int at = 0; at < names.length; at++) {
            range(names[at], usual, at, ends[at], (p, n) -> p.test(n[0], n[1], true, n[2]), EdgeNumbersTest::knownShown);
            range(names[at], usual, at, ends[at], (p, n) -> p.test(n[0], n[1], false, n[2]), EdgeNumbersTest::knownShown);
        }
    }

    // Promise 18: "never below that of the telling ahead"
    private static void testDays() {
        BeamPlate p = new BeamPlate();
        yes("18 day 0", p.test(0, 10, false, 0));
        yes("18 day 0 again", p.test(0, 11, false, 0));
        yes("18 a later day", p.test(0, 12, false, 7));
        no("18 one below it", p.test(0, 500, false, 6));
        no("18 day 0", p.test(0, 500, false, 0));
        no("18 of another stuff too", p.test(1, 500, false, 6));
        due("18 nothing was done", p.known(0, 999, 0), 13);
        due("18 nothing was done to the other", p.known(1, 999, 0), 1);
        no("18 a refused one", p.test(4, 500, false, 9));
        yes("18 does not put the day on", p.test(1, 13, false, 7));
        yes("18 the last day", p.test(1, 14, false, 999));
        yes("18 the last day again", p.test(1, 15, false, 999));
        no("18 the day ahead of it", p.test(1, 16, false, 998));
        due("18 as known", p.known(1, 999, 0), 16);
    }

    // Promise 18: "200 in all"; "false, and nothing is done, if there are 200"
    private static void testsFull() {
        BeamPlate p = new BeamPlate();
        for (int i = 0; i < 200; i++) {
            no("18 a refused one does not count", p.test(i % 4, 0, false, 1));
            yes("18 test " + i, p.test(i % 4, 1 + i, false, 1));
        }
        no("18 the 201st", p.test(0, 500, false, 1));
        no("18 on another day", p.test(1, 500, true, 2));
        for (int stuff = 0; stuff < 4; stuff++) {
            due("18 of the 200 the greatest", p.known(stuff, 1, 0), 198 + stuff);
            due("18 nothing was done", p.known(stuff, 999, 1), 999);
        }
    }

    // Promise 19: "AS KNOWN on a DAY (0 .. 999)"; "NONE if one can't be, or another what"
    private static void knownRanges() {
        BeamPlate p = new BeamPlate();
        int[] stuffs = {-1, 4, Integer.MIN_VALUE, Integer.MAX_VALUE};
        int[] days = {-1, 1000, Integer.MIN_VALUE, Integer.MAX_VALUE};
        for (int what = 0; what <= 3; what++) {
            for (int i = 0; i < 4; i++) {
                due("19 stuff " + stuffs[i], p.known(stuffs[i], 0, what), NONE);
                due("19 day " + days[i], p.known(0, days[i], what), NONE);
            }
        }
        int[] whats = {-1, 4, Integer.MIN_VALUE, Integer.MAX_VALUE};
        for (int what : whats) {
            due("19 what " + what, p.known(0, 0, what), NONE);
        }
        int[] fresh = {1, 999, 0, 500};
        for (int what = 0; what <= 3; what++) {
            for (int stuff = 0; stuff < 4; stuff++) {
                due("19 without a test on the first day", p.known(stuff, 0, what), fresh[what]);
                due("19 without a test on the last day", p.known(stuff, 999, what), fresh[what]);
            }
        }
    }

    private static void known(BeamPlate p, int day, int least, int most, int quarrel, int next) {
        int[] want = {least, most, quarrel, next};
        for (int what = 0; what <= 3; what++) {
            due("19 what " + what + " on day " + day, p.known(0, day, what), want[what]);
        }
    }

    // Promise 19: "from one more than the greatest that was not CUT (1) to the least that was (999)"; "QUARREL: no number is
    // left"; "half of both ends together, downwards"; "NONE if one number is left, or none"
    private static void knownEdges() {
        BeamPlate p = new BeamPlate();
        p.test(0, 1, false, 1);
        known(p, 0, 1, 999, 0, 500);
        known(p, 1, 2, 999, 0, 500);
        p.test(0, 999, true, 2);
        known(p, 2, 2, 999, 0, 500);
        p.test(0, 998, true, 3);
        known(p, 3, 2, 998, 0, 500);
        p.test(0, 4, true, 4);
        known(p, 4, 2, 4, 0, 3);
        p.test(0, 3, true, 5);
        known(p, 5, 2, 3, 0, 2);
        p.test(0, 2, true, 6);
        known(p, 6, 2, 2, 0, NONE);
        p.test(0, 1, true, 7);
        known(p, 7, 2, 1, 1, NONE);
        known(p, 6, 2, 2, 0, NONE);
        known(p, 999, 2, 1, 1, NONE);
        p = new BeamPlate();
        p.test(0, 9999, true, 0);
        known(p, 0, 1, 999, 0, 500);
        p.test(0, 1000, true, 0);
        known(p, 0, 1, 999, 0, 500);
        p.test(0, 997, false, 0);
        known(p, 0, 998, 999, 0, 998);
        p.test(0, 998, false, 0);
        known(p, 0, 999, 999, 0, NONE);
        p.test(0, 999, false, 1);
        known(p, 1, 1000, 999, 1, NONE);
        known(p, 0, 999, 999, 0, NONE);
        p.test(0, 9999, false, 2);
        known(p, 2, 10000, 999, 1, NONE);
    }

    // Promise 20: "The TAPE, empty then, are SPARKS: how many"
    private static void sparkEdges() {
        BeamPlate p = new BeamPlate();
        due("20 an empty tape", p.sparks(), 0);
        p.feed(0, 0, 0, 0, 0);
        p.end(1);
        due("20 one", p.sparks(), 1);
        due("20 the tape is empty then", p.end(1) ? 1 : 0, 0);
        due("20 one is there", p.lost(1, 1), 0);
        due("20 not two", p.lost(1, 2), NONE);
        p.feed(0, 0, 0, 0, 0);
        due("20 what is on the tape are no sparks yet", p.lost(1, 2), NONE);
        no("20 a way is no spark", p.way(0));
        due("20 the sparks stay as a way comes", p.lost(1, 1), 0);
        for (int i = 0; i < 20; i++) {
            p.feed(0, 0, 0, 0, 0);
        }
        due("20 four hundred", p.sparks(), 400);
        due("20 they are all there", p.lost(1, 99), 0);
        due("20 none", p.sparks(), 0);
        due("20 the ones ahead are no more", p.lost(256, 1), NONE);
    }

    // Promise 21: "by a bound b and a length k (1 .. 99)"; "NONE if there is none, or one can't be (b 0 .. 256)"
    private static void lostRanges() {
        BeamPlate p = new BeamPlate();
        for (int i = 0; i < 5; i++) {
            p.feed(0, 0, 0, 0, 0);
        }
        p.sparks();
        int[] wrongBounds = {-1, 257, Integer.MIN_VALUE, Integer.MAX_VALUE};
        int[] wrongLengths = {0, 100, -1, Integer.MIN_VALUE, Integer.MAX_VALUE};
        for (int b : wrongBounds) {
            due("21 bound " + b, p.lost(b, 1), NONE);
        }
        for (int k : wrongLengths) {
            due("21 length " + k, p.lost(256, k), NONE);
        }
        due("21 the least bound", p.lost(0, 1), NONE);
        due("21 the next", p.lost(1, 1), 0);
        due("21 the greatest bound", p.lost(256, 99), 0);
        due("21 the greatest length", p.lost(1, 99), 0);
        due("21 the least length", p.lost(256, 1), 0);
    }

    // Promise 21: "the first place from which k bytes one behind the other are below b"
    private static void lostEdges() {
        BeamPlate p = new BeamPlate();
        due("21 without sparks", p.lost(256, 1), NONE);
        // 9 5 5 9 5 5 5 9 9 9 9 9 9 9 9 9 9 9 4 5
        p.feed(0x09050509, 0x05050509, 0x09090909, 0x09090909, 0x09090405);
        p.sparks();
        due("21 the first of several", p.lost(6, 2), 1);
        due("21 a run that is broken off does not count", p.lost(6, 3), 4);
        due("21 one more than the longest", p.lost(6, 4), NONE);
        due("21 not below its own bound", p.lost(5, 1), 18);
        due("21 just below", p.lost(6, 1), 1);
        due("21 not two at the end", p.lost(5, 2), NONE);
        due("21 none below", p.lost(4, 1), NONE);
        due("21 no bytes at all are no lost cut", p.lost(6, 0), NONE);
        due("21 not even where none is below", p.lost(0, 0), NONE);
        due("21 the whole row", p.lost(10, 20), 0);
        due("21 more than the row has", p.lost(10, 21), NONE);
        p.feed(-1, -1, -1, -1, 0xff000000);
        p.sparks();
        due("21 at the very end", p.lost(1, 3), 17);
        due("21 beyond the end", p.lost(1, 4), NONE);
        due("21 255 is below 256", p.lost(256, 20), 0);
        due("21 255 is not below 255", p.lost(255, 4), NONE);
    }
}
