/** Each promise of the document with ordinary inputs, the edges that the document names, and wrong inputs. */
public final class PromisesTest {
    private static final Bench BENCH = new Bench("PromisesTest");
    private static final int NONE = BeamPlate.NONE;

    public static void main(String[] args) {
        newObject();
        stuffs();
        plates();
        beams();
        pitches();
        feeds();
        ends();
        ways();
        faults();
        runs();
        cells();
        looks();
        heats();
        orders();
        speeds();
        kinds();
        fills();
        tests();
        knowns();
        sparkRows();
        losts();
        BENCH.finish();
    }

    private static void due(String call, long got, long want) {
        BENCH.due(call, got, want);
    }

    private static void yes(String call, boolean got) {
        BENCH.yes(call, got);
    }

    private static void no(String call, boolean got) {
        BENCH.no(call, got);
    }

    /** A plate of a stuff without lead and loss that is cut by 10 and burns at 5. */
    private static BeamPlate still(int wide, int high) {
        BeamPlate p = new BeamPlate();
        p.stuff(0, 10, 0, 0, 5);
        p.plate(wide, high, 0, 1);
        p.beam(10, true);
        return p;
    }

    // Promise 1
    private static void newObject() {
        BeamPlate p = new BeamPlate();
        due("1 NONE", NONE, -1);
        for (int what = 0; what <= 13; what++) {
            due("1 look " + what, p.look(what), 0);
        }
        for (int what = 0; what <= 3; what++) {
            due("1 heat " + what, p.heat(what), 0);
        }
        due("1 cell", p.cell(0, 0, 0), NONE);
        due("1 run", p.run(0), NONE);
        due("1 order", p.order(1, 0), NONE);
        due("1 speed", p.speed(0, 1), NONE);
        due("1 fault", p.fault(0), 0);
        due("1 its place", p.fault(1), NONE);
        p.plate(3, 3, 0, 1);
        for (int k = 0; k < 8; k++) {
            due("1 an empty way " + k, p.run(k), 0);
        }
        due("1 speed at first", p.look(4), 5);
        // 100 of heat, 10 led on to each of two cells, 1 of the 80 that are left lost, 80 - 1 >= 60
        Bench.run(p, "on; hold 1;");
        due("1 lead and loss at first", p.cell(0, 0, 0), 79);
        due("1 burn at first", p.cell(0, 0, 2), 1);
        due("1 led at first", p.cell(1, 0, 0), 10);
        Bench.run(p, "hold 1;");
        due("1 melt and gas at first", p.cell(0, 0, 1), 1);
        for (int k = 0; k < 4; k++) {
            // 2 of 101 or 102 are lost, 1 of 60 or 61
            due("1 melt of " + k, first(k, 102, 1), 1);
            due("1 not yet", first(k, 101, 1), 0);
            due("1 burn of " + k, first(k, 61, 2), 1);
            due("1 not yet", first(k, 60, 2), 0);
            due("1 loss of " + k, first(k, 50, 0), 49);
            due("1 not yet", first(k, 49, 0), 49);
            p.plate(2, 1, k, 9);
            Bench.run(p, "on; hold 1;");
            due("1 lead of " + k, p.cell(1, 0, 0), 10);
        }
    }

    /** What a cell of a stuff is like behind one tick of a beam. */
    private static int first(int stuff, int strength, int what) {
        BeamPlate p = new BeamPlate();
        p.plate(1, 1, stuff, 1);
        p.beam(strength, true);
        Bench.run(p, "on; hold 1;");
        return p.cell(0, 0, what);
    }

    // Promise 2
    private static void stuffs() {
        BeamPlate p = new BeamPlate();
        for (int k = 0; k < 4; k++) {
            yes("2 least", p.stuff(k, 1, 0, 0, 1));
            yes("2 most", p.stuff(k, 999, 20, 20, 9999));
        }
        int[][] wrong = {{-1, 1, 0, 0, 1}, {4, 1, 0, 0, 1}, {0, 0, 0, 0, 1}, {0, 1000, 0, 0, 1}, {0, 1, -1, 0, 1},
            {0, 1, 21, 0, 1}, {0, 1, 0, -1, 1}, {0, 1, 0, 21, 1}, {0, 1, 0, 0, 0}, {0, 1, 0, 0, 10000},
            {Integer.MIN_VALUE, 1, 0, 0, 1}, {0, Integer.MAX_VALUE, 0, 0, 1}};
        for (int[] w : wrong) {
            no("2 wrong", p.stuff(w[0], w[1], w[2], w[3], w[4]));
        }
        p.plate(1, 1, 0, 1);
        p.beam(999, true);
        Bench.run(p, "on; hold 1;");
        due("2 nothing was done by the wrong ones", p.cell(0, 0, 0), 999 - 199);
        due("2 nothing was done to burn", p.cell(0, 0, 2), 0);
        // The plate has its stuff, so new numbers hold from the next tick on.
        p.stuff(0, 500, 0, 0, 700);
        Bench.run(p, "off; hold 1;");
        due("2 a stuff told later", p.cell(0, 0, 1), 1);
        p.stuff(1, 999, 0, 0, 9999);
        p.plate(1, 1, 1, 1);
        Bench.run(p, "on; hold 1;");
        due("2 stuffs have each their own", p.cell(0, 0, 1), 1);
        p.stuff(1, 999, 0, 0, 9999);
        p.plate(1, 1, 1, 2);
        Bench.run(p, "on; hold 1;");
        due("2 melt times thick", p.cell(0, 0, 1), 0);
    }

    // Promise 3
    private static void plates() {
        BeamPlate p = new BeamPlate();
        int[][] wrong = {{0, 1, 0, 1}, {17, 1, 0, 1}, {1, 0, 0, 1}, {1, 13, 0, 1}, {1, 1, -1, 1}, {1, 1, 4, 1},
            {1, 1, 0, 0}, {1, 1, 0, 10}, {-1, -1, 0, 1}, {Integer.MAX_VALUE, 1, 0, 1}};
        for (int[] w : wrong) {
            no("3 wrong", p.plate(w[0], w[1], w[2], w[3]));
        }
        due("3 still none", p.look(4), 0);
        yes("3 largest", p.plate(16, 12, 3, 9));
        due("3 its cells", p.look(6), 192);
        due("3 the last cell", p.cell(15, 11, 1), 0);
        due("3 beyond", p.cell(16, 11, 1), NONE);
        due("3 above", p.cell(15, 12, 1), NONE);
        yes("3 least", p.plate(1, 1, 0, 1));
        due("3 one cell", p.look(6), 1);

        p = tippedPair();
        Bench.run(p, "to 2 2; hold 9999;");
        due("3 before: hits", p.look(5), 1);
        due("3 before: spent", p.look(13), 1);
        no("3 wrong keeps the plate", p.plate(3, 3, 0, 10));
        due("3 kept", p.look(13), 1);
        yes("3 anew", p.plate(7, 7, 0, 1));
        int[] fresh = {0, 0, 0, 0, 5, 0, 49, 0, 0, 0, 0, 1, 0, 0};
        for (int what = 0; what < fresh.length; what++) {
            due("3 anew look " + what, p.look(what), fresh[what]);
        }
        for (int what = 0; what < 4; what++) {
            due("3 anew heat " + what, p.heat(what), 0);
        }
        due("3 whole", p.cell(1, 1, 1), 0);
        due("3 not burnt", p.cell(1, 1, 2), 0);
        p.beam(6, true);
        Bench.run(p, "on; hold 1;");
        due("3 before: burnt", p.cell(0, 0, 2), 1);
        p.plate(7, 7, 0, 1);
        due("3 anew not burnt", p.cell(0, 0, 2), 0);
        p.beam(10, true);
        // The strength, the gas and the pitch are the works', not the plate's.
        Bench.run(p, "on; hold 1;");
        due("3 strength stays", p.heat(0), 10);
    }

    // Promise 4
    private static void beams() {
        BeamPlate p = still(2, 1);
        no("4 below", p.beam(-1, false));
        no("4 above", p.beam(10000, false));
        Bench.run(p, "on; hold 1;");
        due("4 nothing was done", p.cell(0, 0, 1), 1);
        yes("4 most", p.beam(9999, false));
        Bench.run(p, "to 1 0; hold 2;");
        due("4 without gas nothing is cut", p.cell(1, 0, 1), 0);
        due("4 it heats", p.cell(1, 0, 0), 19998);
        due("4 and burns", p.cell(1, 0, 2), 1);
        yes("4 least", p.beam(0, true));
        Bench.run(p, "hold 1;");
        due("4 gas blows out what is molten", p.cell(1, 0, 1), 1);
        due("4 given", p.heat(0), 10 + 19998);
    }

    // Promise 5
    private static void pitches() {
        BeamPlate p = still(3, 3);
        no("5 below", p.pitch(1));
        no("5 above", p.pitch(10));
        no("5 none", p.pitch(0));
        no("5 less", p.pitch(Integer.MIN_VALUE));
        for (int n = 2; n <= 9; n++) {
            yes("5 pitch", p.pitch(n));
        }
        // A lone cell at x lies still if it has a slat, and falls else; at first the slats are 4 apart.
        for (int n = 1; n <= 9; n++) {
            for (int x = 1; x <= 10; x++) {
                p = still(12, 3);
                if (n > 1) {
                    p.pitch(n);
                }
                Bench.run(p, Bench.around(x, 1));
                int slats = n == 1 ? 4 : n;
                due("5 pitch " + n + " x " + x, p.cell(x, 1, 1), x % slats == 0 ? 0 : 2);
            }
        }
    }

    // Promise 6
    private static void feeds() {
        BeamPlate p = new BeamPlate();
        for (int i = 1; i <= 20; i++) {
            due("6 feed", p.feed(0x01020304, -1, 0, 0x7f80ff00, 0x20202020), 20 * i);
        }
        due("6 full", p.feed(1, 2, 3, 4, 5), NONE);
        yes("6 nothing came", p.end(400));
        p.end(381);
        due("6 above by one", p.feed(1, 2, 3, 4, 5), NONE);
        p.end(380);
        due("6 just full", p.feed(1, 2, 3, 4, 5), 400);
        p.end(20);
        due("6 as sparks", p.sparks(), 20);
        // 1 2 3 4 255 255 255 255 0 0 0 0 127 128 255 0 32 32 32 32
        due("6 highest first", p.lost(2, 1), 0);
        due("6 in their order", p.lost(5, 5), NONE);
        due("6 four small ones", p.lost(5, 4), 0);
        due("6 bytes are not below 0", p.lost(1, 4), 8);
        due("6 127 and 128", p.lost(129, 6), 8);
        due("6 127", p.lost(128, 6), NONE);
        due("6 the last number", p.lost(33, 5), 15);
    }

    // Promise 7
    private static void ends() {
        BeamPlate p = new BeamPlate();
        yes("7 empty", p.end(0));
        no("7 not so many", p.end(1));
        no("7 below", p.end(-1));
        p.feed(1, 2, 3, 4, 5);
        no("7 one more", p.end(21));
        no("7 least", p.end(Integer.MIN_VALUE));
        yes("7 all", p.end(20));
        yes("7 fewer", p.end(7));
        no("7 they are gone", p.end(8));
        due("7 comes behind the seven", p.feed(1, 2, 3, 4, 5), 27);
        due("7 the first ones stay", p.sparks(), 27);
        due("7 the bytes", p.lost(2, 14), 0);
        due("7 the second number comes later", p.lost(2, 15), NONE);
        due("7 it is now behind the seven", p.lost(1, 6), 4);
    }

    // Promise 8
    private static void ways() {
        BeamPlate p = still(9, 9);
        yes("8 a way", Bench.way(p, 0, "hold 3;"));
        due("8 the tape is empty", p.feed(0, 0, 0, 0, 0), 20);
        p.end(0);
        no("8 a fault", Bench.way(p, 0, "hold 4"));
        due("8 the tape is empty then too", p.feed(0, 0, 0, 0, 0), 20);
        p.end(0);
        due("8 it stays", p.run(0), 3);
        no("8 a fault in an empty one", Bench.way(p, 1, "hold 4; off; hold"));
        due("8 at first it is empty", p.run(1), 0);
        no("8 none such", Bench.way(p, 8, "hold 4"));
        due("8 fault tells 0", p.fault(0), 0);
        due("8 and no place", p.fault(1), NONE);
        due("8 empty behind none such", p.feed(0, 0, 0, 0, 0), 20);
        p.end(0);
        no("8 none such below", p.way(-1));
        no("8 far", p.way(Integer.MAX_VALUE));
        yes("8 the last", Bench.way(p, 7, "hold 5;"));
        due("8 runs", p.run(7), 5);
        yes("8 an empty text", Bench.way(p, 7, ""));
        due("8 runs empty", p.run(7), 0);
        String[] right = {"on;off;to 1 2;go east 1;go north 1;go west 1;go south 1;hold 1;speed 1;", " \n on \n ; \n",
            "again 1 begin end;", "again 99begin on;off;end;", "speed 20;speed 1;speed 0001;", "hold 9999;hold 0;",
            "if 1+2-3=x-y+hot hold 1;", "if tick<cut on;", "if 0>0 again 1 begin end;",
            "if x<1 if y<1 if x=1 if y=1 on;", "to 9999 9999;", "to 12 34;", "hold1;", "if 1=1on;",
            "again 1 begin again 1 begin again 1 begin again 1 begin on; end; end; end; end;",
            "if x<1 again 1 begin if y<1 again 2 begin off; end; if x=1 on; end; if x<1 on;"};
        for (String text : right) {
            yes("8 " + text, Bench.way(p, 3, text));
            due("8 no fault in " + text, p.fault(0), 0);
            due("8 no place in " + text, p.fault(1), NONE);
        }
    }

    private static void fault(String text, int kind, int place) {
        BeamPlate p = new BeamPlate();
        no("9 " + text, Bench.way(p, 0, text));
        due("9 the fault of " + text, p.fault(0), kind);
        due("9 its place in " + text, p.fault(1), place);
        due("9 another what", p.fault(2), NONE);
        due("9 below", p.fault(-1), NONE);
        yes("9 a right one", Bench.way(p, 0, "on;"));
        due("9 of the latest way", p.fault(0), 0);
        due("9 of the latest way its place", p.fault(1), NONE);
    }

    // Promise 9
    private static void faults() {
        fault("on", 1, 2);
        fault("on  \n ", 1, 6);
        fault("on on;", 1, 3);
        fault("onn;", 1, 0);
        fault("on;ON;", 1, 3);
        fault("on;oN;", 1, 3);
        fault("onX;", 1, 0);
        fault(";", 1, 0);
        fault("on;;", 1, 3);
        fault("on;\t", 1, 3);
        fault("on;" + (char) 13, 1, 3);
        fault("on" + (char) 233 + ";", 1, 2);
        fault("on" + (char) 0 + ";", 1, 2);
        fault("12;", 1, 0);
        fault("to 1 2 3;", 1, 7);
        fault("to;", 1, 2);
        fault("to 1", 1, 4);
        fault("to x y;", 1, 3);
        fault("go 1;", 1, 3);
        fault("go hot 1;", 1, 3);
        fault("go east;", 1, 7);
        fault("go east -1;", 1, 8);
        fault("hold 00001;", 1, 5);
        fault("hold 12345;", 1, 5);
        fault("speed 0;", 2, 6);
        fault("speed 21", 2, 6);
        fault("speed 0021;", 2, 6);
        fault("speed 10000;", 1, 6);
        fault("speed x;", 1, 6);
        fault("again 0 begin end;", 2, 6);
        fault("again 100 begin end;", 2, 6);
        fault("again begin end;", 1, 6);
        fault("again 1 on;", 1, 8);
        fault("again 1 begin on end;", 1, 17);
        fault("again 1 begin end", 1, 17);
        fault("again 1 begin on;", 1, 17);
        fault("again 1 begin end; end;", 1, 19);
        fault("begin end;", 1, 0);
        fault("end;", 1, 0);
        fault("if x on;", 1, 5);
        fault("if x=1;", 1, 6);
        fault("if x=1 end;", 1, 7);
        fault("again 1 begin if x=1 end;", 1, 21);
        fault("if x=1", 1, 6);
        fault("if x=;", 1, 5);
        fault("if =1 on;", 1, 3);
        fault("if -1=1 on;", 1, 3);
        fault("if x+=1 on;", 1, 5);
        fault("if x=1+ on;", 1, 8);
        fault("if x<1<2 on;", 1, 6);
        fault("if x<=1 on;", 1, 5);
        fault("if east=1 on;", 1, 3);
        fault("if x 1=1 on;", 1, 5);
        fault("if xy=1 on;", 1, 3);
        fault("if x=12345 on;", 1, 5);
        fault("if x<1 if x<1 if x<1 if x<1 if x<1 on;", 3, 28);
        fault("if x<1 if x<1 if x<1 if x<1 again 0 begin on;", 3, 28);
        fault("again 1 begin again 1 begin again 1 begin again 1 begin if", 3, 56);
        fault("again 1 begin if x<1 again 1 begin if x<1 on; if x<1 again", 3, 53);
        // What was behind the end is no more.
        BeamPlate p = new BeamPlate();
        Bench.put(p, "on;off;on;");
        p.end(5);
        no("9 a word cut off", p.way(0));
        due("9 its place", p.fault(1), 3);
        Bench.put(p, "hold 123456789");
        p.end(9);
        no("9 a number cut off", p.way(0));
        due("9 its place", p.fault(1), 9);
        // Of several the first by its place.
        fault("speed 0; on on;", 2, 6);
        fault("on on; speed 0;", 1, 3);
    }

    // Promise 10
    private static void runs() {
        BeamPlate p = still(5, 4);
        due("10 none such", p.run(8), NONE);
        due("10 below", p.run(-1), NONE);
        due("10 to", Bench.run(p, "to 4 3;"), 0);
        due("10 to x", p.look(1), 4);
        due("10 to y", p.look(2), 3);
        Bench.run(p, "to 5 3; to 4 4; to 9999 0;");
        due("10 it stays x", p.look(1), 4);
        due("10 it stays y", p.look(2), 3);
        due("10 beyond the border", Bench.run(p, "go east 1; go north 3;"), 0);
        due("10 up to the border", Bench.run(p, "go west 9; go south 9;"), 5 * (4 + 3));
        due("10 west", p.look(1), 0);
        due("10 south", p.look(2), 0);
        due("10 no cells", Bench.run(p, "go east 0; hold 0;"), 0);
        due("10 slowly", Bench.run(p, "speed 20; go north 2; speed 1; go east 3;"), 43);
        due("10 north", p.look(2), 2);
        due("10 east", p.look(1), 3);
        due("10 its speed stays", Bench.run(p, "go west 1;"), 1);
        due("10 again", Bench.run(p, "again 3 begin hold 2; again 2 begin hold 1; end; end;"), 12);
        due("10 an empty again", Bench.run(p, "again 99 begin end; hold 1;"), 1);
        conditions();
        costs();
        hits();
    }

    private static void conditions() {
        BeamPlate p = still(5, 4);
        Bench.run(p, "to 3 2;");
        due("10 x", Bench.run(p, "if x=3 hold 1; if x>3 hold 10; if x<3 hold 100;"), 1);
        due("10 y", Bench.run(p, "if y>1 hold 1; if y>2 hold 10; if 3>y hold 100;"), 101);
        due("10 sums", Bench.run(p, "if 1-2-3=1-5 hold 1; if 5-3+1=1 hold 10; if x+y=5 hold 100;"), 101);
        due("10 below 0", Bench.run(p, "if 1-2<0 hold 1;"), 1);
        due("10 tick", Bench.run(p, "hold 4; if tick=4 hold 1; if tick=4 hold 10; if tick=5 hold 100;"), 105);
        due("10 tick is this run's", Bench.run(p, "if tick=0 hold 1;"), 1);
        p.beam(4, true);
        due("10 hot", Bench.run(p, "on; hold 2; if hot=8 hold 1; if hot=0 hold 10; if cut=1 hold 100;"), 113);
        due("10 cut", p.cell(3, 2, 1), 1);
        due("10 not cut", Bench.run(p, "to 0 0; if cut=0 hold 1; to 3 2; if cut=0 hold 10;"), 1);
        due("10 inner again", Bench.run(p, "again 3 begin if tick<4 hold 2; if tick=4 again 2 begin hold 5; end; end;"),
            14);
        due("10 if within if", Bench.run(p, "if x=3 if y=3 hold 1; if x=3 if y=2 hold 10; hold 100;"), 110);
        // A cell may have 99999999 of heat, so sums of it go beyond 2 to the 31.
        BeamPlate q = new BeamPlate();
        q.stuff(0, 999, 0, 0, 9999);
        q.plate(1, 1, 0, 9);
        q.beam(9999, false);
        Bench.way(q, 0, "on; hold 999;");
        for (int i = 0; i < 12; i++) {
            q.run(0);
        }
        due("10 hottest", q.cell(0, 0, 0), 99999999);
        StringBuilder sum = new StringBuilder("off; if hot");
        for (int i = 0; i < 49; i++) {
            sum.append("+hot");
        }
        due("10 a large sum", Bench.run(q, sum + ">9999 hold 1;"), 1);
    }

    private static void costs() {
        BeamPlate p = still(5, 4);
        due("10 998 and one step", Bench.run(p, "hold 998;"), 998);
        due("10 not spent", p.look(13), 0);
        due("10 used up by the last tick", Bench.run(p, "hold 999;"), 999);
        due("10 these are used up", p.look(13), 1);
        due("10 too many", Bench.run(p, "hold 1000; on;"), 999);
        due("10 spent", p.look(13), 2);
        due("10 it stops there", p.look(3), 0);
        due("10 the last one paid is a step", Bench.run(p, "hold 997; speed 7; speed 9;"), 997);
        due("10 its step was done", p.look(4), 9);
        due("10 spent by steps", p.look(13), 3);
        due("10 none left", Bench.run(p, "hold 998; to 3 3; to 1 1;"), 998);
        due("10 where it stands", p.look(1), 3);
        due("10 go pays ticks", Bench.run(p, "to 0 0; hold 975; speed 10; go east 4; to 3 3;"), 975 + 21);
        due("10 it stops within a cell", p.look(1), 3);
        due("10 and goes nowhere else", p.look(2), 0);
        due("10 go pays to a cell's end", Bench.run(p, "to 0 0; hold 976; speed 10; go east 4;"), 976 + 20);
        due("10 it stops at a cell", p.look(1), 2);
        due("10 go itself is the last", Bench.run(p, "to 0 0; hold 997; go east 4;"), 997);
        due("10 it does not go", p.look(1), 0);
        // again and if cost one each, a turn of an again nothing
        due("10 an again of empty agains", Bench.run(p, "again 99 begin again 9 begin again 99 begin end; end; end; hold 9;"),
            1000 - 1 - 99 * 10 - 1);
        due("10 if costs", Bench.run(p, "again 99 begin if 1=1 if 1=0 on; end; hold 999;"), 1000 - 1 - 99 * 2 - 1);
    }

    private static void hits() {
        BeamPlate p = tippedPair();
        due("10 no hit yet", p.look(5), 0);
        Bench.run(p, "off; to 2 2;");
        due("10 a hit", p.look(5), 1);
        Bench.run(p, "to 2 2;");
        due("10 come to again", p.look(5), 2);
        Bench.run(p, "to 99 2; speed 1; go east 1; go east 1; go west 2;");
        due("10 hits by going", p.look(5), 5);
        Bench.run(p, "hold 5; go north 9;");
        due("10 no more", p.look(5), 5);
        Bench.run(p, "to 2 2; on; hold 1; off; to 0 0; to 2 2;");
        due("10 a cell that is not there is no hit", p.look(5), 6);
    }

    /** Cells 2, 2 and 3, 2 are tipped on a slat under 3. */
    private static BeamPlate tippedPair() {
        BeamPlate p = still(6, 5);
        p.pitch(3);
        Bench.run(p, "on; speed 1; to 1 1; hold 1; go east 3; go north 2; go west 3; go south 1;");
        return p;
    }

    // Promise 11
    private static void cells() {
        BeamPlate p = tippedPair();
        for (int what = 0; what <= 5; what++) {
            due("11 left of it", p.cell(-1, 0, what), NONE);
            due("11 below it", p.cell(0, -1, what), NONE);
            due("11 right of it", p.cell(6, 0, what), NONE);
            due("11 above it", p.cell(0, 5, what), NONE);
            due("11 far", p.cell(Integer.MAX_VALUE, Integer.MIN_VALUE, what), NONE);
        }
        due("11 another what", p.cell(0, 0, 6), NONE);
        due("11 below", p.cell(0, 0, -1), NONE);
        int[] tipped = {0, 3, 0, 2, 0, 1};
        int[] cut = {0, 1, 0, 0, 0, NONE};
        int[] border = {0, 0, 0, 18, 1, 0};
        for (int what = 0; what <= 5; what++) {
            due("11 tipped " + what, p.cell(2, 2, what), tipped[what]);
            due("11 cut " + what, p.cell(1, 1, what), cut[what]);
            due("11 border " + what, p.cell(5, 4, what), border[what]);
        }
        Bench.run(p, "to 2 2; on; hold 1;");
        due("11 tipped, then cut", p.cell(2, 2, 1), 1);
        due("11 the rest lies still on its slat, but is tipped for ever", p.cell(3, 2, 1), 3);
        p = still(5, 5);
        Bench.run(p, Bench.around(2, 2));
        int[] fallen = {0, 2, 0, 0, 0, NONE};
        for (int what = 0; what <= 5; what++) {
            due("11 fallen " + what, p.cell(2, 2, what), fallen[what]);
        }
        p.plate(3, 3, 0, 1);
        p.beam(6, true);
        Bench.run(p, "on; hold 1;");
        due("11 burnt", p.cell(0, 0, 2), 1);
        due("11 its heat", p.cell(0, 0, 0), 6);
        Bench.run(p, "hold 1;");
        due("11 cut", p.cell(0, 0, 1), 1);
        due("11 burnt for ever", p.cell(0, 0, 2), 1);
        bridges();
        borders();
    }

    // A part of one cell is held at each side of the plate, and parts hang together by sides alone.
    private static void borders() {
        int[][] middles = {{0, 2}, {4, 2}, {2, 0}, {2, 4}, {0, 0}, {4, 4}, {0, 4}, {4, 0}};
        for (int[] m : middles) {
            BeamPlate p = still(5, 5);
            Bench.run(p, Bench.around(m[0], m[1]));
            due("11 alone at the border", p.cell(m[0], m[1], 3), 1);
            due("11 it is there", p.cell(m[0], m[1], 1), 0);
            due("11 held", p.cell(m[0], m[1], 4), 1);
        }
        BeamPlate p = still(3, 3);
        Bench.run(p, "speed 1; on; to 1 0; hold 1; go north 2;");
        due("11 two columns", p.look(11), 2);
        due("11 the left one", p.cell(0, 2, 3), 3);
        due("11 the right one", p.cell(2, 0, 3), 3);
        p = still(2, 2);
        Bench.run(p, "on; hold 1; to 1 1; hold 1;");
        due("11 corners do not hang together", p.look(11), 2);
        p = still(5, 5);
        Bench.run(p, "speed 1; on; to 0 1; hold 1; go east 4; to 0 3; hold 1; go east 4;");
        for (int x = 0; x < 5; x++) {
            due("11 a row seen from " + x, p.cell(x, 2, 3), 5);
        }
        p = still(3, 3);
        Bench.run(p, "on;" + "to 0 0; hold 1; to 1 0; hold 1; to 2 0; hold 1; to 0 1; hold 1; to 2 1; hold 1; to 0 2; "
            + "hold 1; to 2 2; hold 1; to 1 2; hold 1;");
        due("11 nothing but a fallen one", p.look(8), 1);
        due("11 no part", p.look(11), 0);
    }

    private static void bridges() {
        // The cell 4, 4 in a ring of two cells' breadth.
        BeamPlate p = still(9, 9);
        p.stuff(0, 10, 0, 0, 9999);
        Bench.run(p, "speed 1; to 2 2; on; hold 1; go east 4; go north 4; go west 4; go south 3; "
            + "to 3 3; hold 1; go east 2; go north 2; go west 2; go south 1;");
        due("11 it tipped while it came loose", p.cell(4, 4, 1), 3);
        due("11 alone", p.cell(4, 4, 3), 1);
        due("11 a bridge through two", p.cell(4, 4, 5), 2);
        due("11 a bridge of what is held", p.cell(1, 1, 5), 0);
        // Without the outer frame the border itself is to be reached.
        p.plate(5, 3, 0, 1);
        p.pitch(2);
        Bench.run(p, "speed 1; to 1 1; on; hold 1; to 2 0; hold 1; to 3 1; hold 1; to 2 2; hold 1;");
        due("11 the border counts", p.cell(2, 1, 5), 1);
        // Through another part it costs nothing: from 2, 2 over 3, 2 into the part at 4, 2 and over 5, 2.
        p.plate(7, 5, 0, 1);
        Bench.run(p, "speed 1; to 1 1; on; hold 1; go east 4; go north 2; go west 4; go south 1; to 3 2; hold 1;");
        due("11 two parts", p.look(12), 2);
        due("11 the nearer way", p.cell(2, 2, 5), 1);
        p.plate(9, 5, 0, 1);
        Bench.run(p, "speed 1; on; go east 8; go north 4; go west 8; go south 4; to 1 1; hold 1; go east 6; go north 2; "
            + "go west 6; go south 1; to 3 2; hold 1; to 5 2; hold 1;");
        due("11 three parts", p.look(12), 3);
        due("11 no part is held", p.look(11), 3);
        due("11 the outer one", p.cell(2, 2, 5), 2);
        due("11 the middle one", p.cell(4, 2, 5), 2);
        int[][] left = {{4, 4, 4}, {4, 8, 3}, {8, 4, 3}, {8, 8, 3}, {4, 1, 1}, {4, 10, 1}, {8, 6, 3}, {4, 6, 4}};
        for (int[] l : left) {
            due("11 all but " + l[0] + ", " + l[1], allBut(l[0], l[1]).cell(l[0], l[1], 5), l[2]);
        }
    }

    /** Of twelve by twelve cells, all but one cut, row by row. */
    private static BeamPlate allBut(int x, int y) {
        BeamPlate p = still(12, 12);
        for (int row = 0; row < 12; row++) {
            String last = row == y ? "go east " + (x - 1) + "; to " + (x + 1) + " " + y + "; hold 1; go east 12;" : "go east 12;";
            Bench.run(p, "on; speed 1; to 0 " + row + "; hold 1; " + last);
        }
        due("11 one is left", p.look(6), 1);
        return p;
    }

    // Promise 12
    private static void looks() {
        BeamPlate p = tippedPair();
        int[] want = {10, 1, 2, 1, 1, 0, 20, 10, 0, 2, 0, 2, 1, 0};
        for (int what = 0; what < want.length; what++) {
            due("12 look " + what, p.look(what), want[what]);
        }
        due("12 another what", p.look(14), NONE);
        due("12 below", p.look(-1), NONE);
        due("12 without a plate too", new BeamPlate().look(14), NONE);
        Bench.run(p, "to 2 2; hold 1; off;");
        due("12 tipped for ever", p.look(9), 2);
        due("12 beam off", p.look(3), 0);
        due("12 there", p.look(6), 19);
        due("12 cut", p.look(7), 11);
        p.pitch(4);
        Bench.run(p, "to 0 0; on; hold 1;");
        due("12 fallen from a slat that was moved, as parts come loose", p.look(8), 1);
        due("12 one part", p.look(11), 1);
        due("12 none loose", p.look(12), 0);
        p.plate(4, 1, 0, 1);
        p.beam(6, true);
        Bench.run(p, "speed 1; on; hold 1; go east 2;");
        due("12 burnt", p.look(10), 3);
        Bench.run(p, "hold 1;");
        due("12 burnt that are there", p.look(10), 2);
        due("12 parts", p.look(11), 2);
        due("12 ticks of the plate", p.look(0), 4);
        tipping();
    }

    /** A row of n cells from x on, loose on slats of a pitch: still, tipped or fallen. */
    private static void rowOf(int x, int n, int pitch, int want) {
        BeamPlate p = still(16, 5);
        p.pitch(pitch);
        Bench.run(p, "on; speed 1; to " + (x - 1) + " 1; hold 1; go east " + (n + 1) + "; go north 2; go west " + (n + 1)
            + "; go south 1;");
        due("12 a row of " + n + " from " + x + " on slats of " + pitch, p.cell(x, 2, 1), want);
        due("12 its cells", p.look(want == 2 ? 8 : 9), want == 0 ? 0 : n);
    }

    private static void tipping() {
        rowOf(2, 2, 3, 3);
        rowOf(3, 2, 3, 3);
        rowOf(2, 3, 3, 0);
        rowOf(3, 4, 3, 0);
        rowOf(5, 5, 9, 3);
        rowOf(7, 5, 9, 0);
        rowOf(8, 5, 9, 3);
        rowOf(4, 5, 9, 2);
        rowOf(4, 9, 4, 0);
        rowOf(5, 3, 4, 2);
        rowOf(5, 4, 4, 3);
        rowOf(2, 1, 2, 0);
        rowOf(3, 1, 2, 2);
        rowOf(5, 10, 5, 0);
    }

    // Promise 13
    private static void heats() {
        BeamPlate p = new BeamPlate();
        p.stuff(0, 999, 10, 7, 9999);
        p.plate(3, 3, 0, 9);
        p.beam(1000, true);
        due("13 another what", p.heat(4), NONE);
        due("13 below", p.heat(-1), NONE);
        Bench.run(p, "to 1 1; on; hold 1; off;");
        // 600 stay in the middle, 100 go to each side; of these 42 and 7 are lost
        due("13 the middle", p.cell(1, 1, 0), 558);
        due("13 a side", p.cell(1, 0, 0), 93);
        due("13 a corner", p.cell(0, 0, 0), 0);
        due("13 given", p.heat(0), 1000);
        due("13 in all", p.heat(1), 558 + 4 * 93);
        due("13 lost", p.heat(2), 42 + 4 * 7);
        due("13 carried", p.heat(3), 0);
        p.stuff(0, 1, 0, 0, 9999);
        Bench.run(p, "hold 1;");
        due("13 carried off", p.heat(3), 930);
        p.plate(3, 3, 0, 1);
        Bench.run(p, "to 1 1; on; hold 3;");
        due("13 none is given where no cell is", p.heat(0), 1000);
        due("13 the cut one's is carried", p.heat(3), 1000);
        // Above the most that a cell has it is lost.
        p.stuff(0, 999, 0, 0, 9999);
        p.plate(1, 1, 0, 9);
        p.beam(9999, false);
        Bench.way(p, 0, "on; hold 999;");
        for (int i = 0; i < 11; i++) {
            p.run(0);
        }
        due("13 most given", p.heat(0), 9999L * 998 * 11);
        due("13 most in a cell", p.heat(1), 99999999);
        due("13 above", p.heat(2), 9999L * 998 * 11 - 99999999);
        // A part that falls carries its heat off.
        p = still(5, 5);
        p.beam(4, true);
        Bench.run(p, "to 2 2; on; hold 2;");
        p.beam(10, true);
        Bench.run(p, Bench.around(2, 2));
        due("13 fallen", p.cell(2, 2, 1), 2);
        due("13 carried with it", p.heat(3), 48);
        due("13 nothing left", p.heat(1), 0);
        flows();
    }

    // The flow goes towards 0 between each two, the loss downwards; all flows at once.
    private static void flows() {
        BeamPlate p = new BeamPlate();
        p.stuff(0, 999, 20, 0, 9999);
        p.plate(2, 1, 0, 9);
        p.beam(4, true);
        Bench.run(p, "on; hold 1; off; hold 9;");
        due("13 four do not flow", p.cell(1, 0, 0), 0);
        p.beam(5, true);
        Bench.run(p, "on; hold 1;");
        due("13 nine send one", p.cell(1, 0, 0), 1);
        due("13 eight stay", p.cell(0, 0, 0), 8);
        p.plate(1, 1, 0, 9);
        p.stuff(0, 999, 20, 3, 9999);
        p.beam(33, true);
        Bench.run(p, "on; hold 1;");
        due("13 99 by 100 is nothing", p.cell(0, 0, 0), 33);
        p.beam(1, true);
        Bench.run(p, "hold 1;");
        due("13 102 by 100 is one", p.cell(0, 0, 0), 33);
    }

    // Promise 14
    private static void orders() {
        BeamPlate p = still(6, 3);
        p.stuff(0, 100, 0, 0, 60);
        p.beam(40, true);
        Bench.way(p, 0, "on; to 1 1; hold 2;");
        Bench.way(p, 1, "on; to 1 1; hold 1;");
        Bench.way(p, 2, "off; hold 4;");
        Bench.way(p, 5, "on; to 4 1; hold 2;");
        order(p, 3, 0, 3, 901);
        order(p, 1, 1, 2, 90);
        order(p, 1 | 4, 1, 6, 902);
        order(p, 32 | 1, 2, 4, 905);
        order(p, 32 | 2 | 1, 1, 5, 9015);
        order(p, 128 | 64 | 16, 0, 0, 9467);
        due("14 nothing was done", p.look(0), 0);
        due("14 no heat", p.heat(0), 0);
        int[] wrong = {0, -1, 256, 257, 15, 255, Integer.MIN_VALUE};
        for (int set : wrong) {
            due("14 set " + set, p.order(set, 0), NONE);
        }
        due("14 another what", p.order(1, 3), NONE);
        due("14 below", p.order(1, -1), NONE);
        // From the head, the beam and the speed as they are; the ticks are those of the trial.
        Bench.run(p, "hold 7; to 2 0; speed 9; on;");
        Bench.way(p, 3, "go north 1;");
        order(p, 8, 0, 9, 93);
        // Of two orders that burn the same the one with fewer ticks, though its numbers are greater.
        p.plate(6, 3, 0, 1);
        Bench.way(p, 3, "hold 5;");
        Bench.way(p, 4, "if hot=0 hold 1; speed 2;");
        Bench.way(p, 2, "go east 1;");
        order(p, 16 | 4, 0, 1 + 2, 942);
        eachOrder();
        // What is spent in a trial does not count.
        Bench.way(p, 6, "hold 9999;");
        order(p, 64 | 8, 0, 999 + 5, 936);
        due("14 not spent here", p.look(13), 0);
    }

    // Each way waits unless it comes at its own turn, which the head's x tells: one order alone takes no ticks.
    private static void eachOrder() {
        int[][] turns = {{0, 1, 2}, {0, 2, 1}, {1, 0, 2}, {1, 2, 0}, {2, 0, 1}, {2, 1, 0}};
        int[] numbers = {1, 4, 7};
        for (int[] turn : turns) {
            BeamPlate p = still(6, 3);
            int order = 9000;
            for (int i = 0; i < 3; i++) {
                Bench.way(p, numbers[i], "if x<t hold 9; if x>t hold 9; ".replace("t", Integer.toString(turn[i]))
                    + "if x=2 to 3 0; if x=1 to 2 0; if x=0 to 1 0;");
                order += numbers[i] * (turn[i] == 0 ? 100 : turn[i] == 1 ? 10 : 1);
            }
            order(p, 128 | 16 | 2, 0, 0, order);
        }
    }

    private static void order(BeamPlate p, int set, int burnt, int ticks, int order) {
        due("14 burnt of " + set, p.order(set, 0), burnt);
        due("14 ticks of " + set, p.order(set, 1), ticks);
        due("14 order of " + set, p.order(set, 2), order);
    }

    // Promise 15
    private static void speeds() {
        BeamPlate p = still(16, 12);
        p.stuff(0, 100, 0, 0, 60);
        int[][] strengths = {{9999, 1}, {100, 1}, {99, 2}, {50, 2}, {49, 3}, {34, 3}, {33, 4}, {6, 17}, {5, 20}, {4, NONE},
            {0, NONE}};
        for (int[] s : strengths) {
            p.beam(s[0], true);
            due("15 east with " + s[0], p.speed(0, 15), s[1]);
            due("15 north with " + s[0], p.speed(1, 11), s[1]);
        }
        p.beam(50, true);
        due("15 west beyond", p.speed(2, 1), NONE);
        due("15 south beyond", p.speed(3, 1), NONE);
        due("15 north beyond", p.speed(1, 12), NONE);
        due("15 no side", p.speed(4, 1), NONE);
        due("15 no side below", p.speed(-1, 1), NONE);
        due("15 no cells", p.speed(0, 0), NONE);
        due("15 too many", p.speed(0, 16), NONE);
        due("15 nothing was done", p.heat(0), 0);
        due("15 the head stays", p.look(1), 0);
        due("15 the speed stays", p.look(4), 5);
        Bench.run(p, "to 15 11;");
        due("15 west", p.speed(2, 15), 2);
        due("15 south", p.speed(3, 11), 2);
        p.beam(50, false);
        due("15 without gas", p.speed(2, 1), NONE);
        p.beam(100, true);
        Bench.run(p, "to 14 11; on; hold 1; off; to 15 11;");
        p.beam(1, true);
        due("15 not there ahead", p.speed(2, 1), 1);
        due("15 but the next one", p.speed(2, 2), NONE);
    }

    // Promise 16
    private static void kinds() {
        BeamPlate p = new BeamPlate();
        int[][] wrong = {{0, 1, 1}, {41, 1, 1}, {1, 0, 1}, {1, 41, 1}, {1, 1, -1}, {1, 1, 1000}, {-5, -5, 5}};
        for (int[] w : wrong) {
            due("16 wrong", p.kind(w[0], w[1], w[2]), NONE);
        }
        due("16 nothing came", p.fill(40, 40), 0);
        due("16 largest", p.kind(40, 40, 999), 0);
        due("16 least", p.kind(1, 1, 0), 1);
        due("16 third", p.kind(3, 2, 5), 2);
        due("16 the same again", p.kind(3, 2, 7), 3);
        due("16 fifth", p.kind(9, 1, 1), 4);
        due("16 sixth", p.kind(2, 2, 2), 5);
        due("16 there are six", p.kind(1, 1, 1), NONE);
        due("16 the better of two", p.fill(2, 3), 7);
        due("16 largest", p.fill(40, 40), Math.max(999, 266 * 7));
    }

    // Promise 17
    private static void fills() {
        BeamPlate p = new BeamPlate();
        int[][] wrong = {{-1, 1}, {1, -1}, {41, 1}, {1, 41}, {Integer.MIN_VALUE, 0}};
        for (int[] w : wrong) {
            due("17 wrong", p.fill(w[0], w[1]), NONE);
        }
        p.kind(2, 3, 10);
        due("17 none", p.fill(0, 40), 0);
        due("17 none high", p.fill(40, 0), 0);
        due("17 just as large", p.fill(2, 3), 10);
        due("17 turned", p.fill(3, 2), 10);
        due("17 too narrow", p.fill(1, 40), 0);
        due("17 left over", p.fill(3, 3), 10);
        due("17 from side to side", p.fill(5, 5), 30);
        due("17 six by six", p.fill(6, 6), 60);
        // A pinwheel of four 3 by 2 around one cell would take five by five, but no straight cut goes through.
        p.kind(1, 1, 1);
        due("17 no pinwheel", p.fill(5, 5), 37);
        p.kind(7, 7, 999);
        due("17 a worthy one", p.fill(8, 8), 999 + 15);
        due("17 forty", p.fill(40, 40), 25 * 999 + (33 * 10 + 2) + (28 * 10 + 7));
    }

    // Promise 18
    private static void tests() {
        BeamPlate p = new BeamPlate();
        no("18 stuff", p.test(4, 1, true, 0));
        no("18 stuff below", p.test(-1, 1, true, 0));
        no("18 heat", p.test(0, 0, true, 0));
        no("18 heat above", p.test(0, 10000, true, 0));
        no("18 day", p.test(0, 1, true, -1));
        no("18 day above", p.test(0, 1, true, 1000));
        yes("18 a test", p.test(0, 9999, true, 5));
        no("18 a day below", p.test(1, 5, true, 4));
        yes("18 the same day", p.test(1, 5, false, 5));
        no("18 wrong, and the day stays", p.test(1, 0, false, 9));
        yes("18 so it does", p.test(1, 6, false, 6));
        for (int i = 3; i < 200; i++) {
            yes("18 a test more", p.test(3, 1, false, 999));
        }
        no("18 there are 200", p.test(3, 400, false, 999));
        due("18 nothing was done", p.known(3, 999, 0), 2);
    }

    // Promise 19
    private static void knowns() {
        BeamPlate p = new BeamPlate();
        int[] fresh = {1, 999, 0, 500, NONE, NONE};
        for (int what = 0; what < fresh.length; what++) {
            due("19 fresh " + what, p.known(2, 0, what), fresh[what]);
        }
        due("19 below", p.known(2, 0, -1), NONE);
        due("19 no stuff", p.known(4, 0, 0), NONE);
        due("19 no stuff below", p.known(-1, 0, 0), NONE);
        due("19 no day", p.known(0, 1000, 0), NONE);
        due("19 no day below", p.known(0, -1, 0), NONE);
        p.test(0, 300, false, 3);
        p.test(0, 200, false, 3);
        p.test(0, 800, true, 4);
        p.test(0, 900, true, 5);
        p.test(1, 400, true, 5);
        known(p, 0, 2, 1, 999, 0, 500);
        known(p, 0, 3, 301, 999, 0, 650);
        known(p, 0, 4, 301, 800, 0, 550);
        known(p, 0, 999, 301, 800, 0, 550);
        known(p, 1, 999, 1, 400, 0, 200);
        known(p, 2, 999, 1, 999, 0, 500);
        p.test(0, 302, true, 6);
        known(p, 0, 6, 301, 302, 0, 301);
        p.test(0, 301, true, 7);
        known(p, 0, 7, 301, 301, 0, NONE);
        p.test(0, 301, false, 8);
        known(p, 0, 8, 302, 301, 1, NONE);
        known(p, 0, 7, 301, 301, 0, NONE);
        p.test(2, 9999, true, 8);
        known(p, 2, 8, 1, 999, 0, 500);
        p.test(2, 998, false, 8);
        known(p, 2, 8, 999, 999, 0, NONE);
        BeamPlate q = new BeamPlate();
        q.test(3, 700, true, 1);
        known(q, 3, 1, 1, 700, 0, 350);
        q = new BeamPlate();
        q.test(3, 700, false, 1);
        known(q, 3, 1, 701, 999, 0, 850);
        p.test(2, 999, false, 9);
        known(p, 2, 9, 1000, 999, 1, NONE);
    }

    private static void known(BeamPlate p, int stuff, int day, int least, int most, int quarrel, int next) {
        String who = " of " + stuff + " on " + day;
        due("19 least" + who, p.known(stuff, day, 0), least);
        due("19 greatest" + who, p.known(stuff, day, 1), most);
        due("19 quarrel" + who, p.known(stuff, day, 2), quarrel);
        due("19 next" + who, p.known(stuff, day, 3), next);
    }

    // Promise 20
    private static void sparkRows() {
        BeamPlate p = new BeamPlate();
        due("20 none", p.sparks(), 0);
        Bench.put(p, "abc");
        due("20 three", p.sparks(), 3);
        due("20 the tape is empty", p.feed(0, 0, 0, 0, 0), 20);
        due("20 the sparks stay", p.lost(256, 4), NONE);
        due("20 they are three", p.lost(256, 3), 0);
        due("20 anew", p.sparks(), 20);
        due("20 others", p.lost(1, 20), 0);
        for (int i = 0; i < 20; i++) {
            p.feed(-1, -1, -1, -1, -1);
        }
        due("20 most", p.sparks(), 400);
        due("20 empty", p.sparks(), 0);
        due("20 none left", p.lost(256, 1), NONE);
    }

    // Promise 21
    private static void losts() {
        BeamPlate p = new BeamPlate();
        due("21 no sparks", p.lost(256, 1), NONE);
        Bench.put(p, "zzAAAzAAAA");
        p.sparks();
        due("21 three", p.lost(70, 3), 2);
        due("21 four", p.lost(70, 4), 6);
        due("21 five", p.lost(70, 5), NONE);
        due("21 not below", p.lost(65, 1), NONE);
        due("21 just below", p.lost(66, 1), 2);
        due("21 all", p.lost(123, 10), 0);
        due("21 one more", p.lost(123, 11), NONE);
        due("21 nothing is below 0", p.lost(0, 1), NONE);
        due("21 b below", p.lost(-1, 1), NONE);
        due("21 b above", p.lost(257, 1), NONE);
        due("21 k below", p.lost(256, 0), NONE);
        due("21 k above", p.lost(256, 100), NONE);
        for (int i = 0; i < 5; i++) {
            p.feed(-1, -1, -1, -1, -1);
        }
        p.sparks();
        due("21 the longest", p.lost(256, 99), 0);
        due("21 a hundred can't be", p.lost(256, 100), NONE);
        due("21 255 is not below 255", p.lost(255, 1), NONE);
    }
}
