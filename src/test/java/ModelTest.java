import java.util.Random;

/** Long rows of random calls, each answered by BeamPlate and by the Model. */
public final class ModelTest {
    private static final String[] SIDES = {"east", "north", "west", "south"};
    private static final String[] UNITS = {"hot", "x", "y", "tick", "cut"};
    private static final String SIGNS = ";;+-<=> \n019azAZ\t!" + (char) 0 + (char) 200;
    private static final String[] WORDS = {"on", "off", "to", "go", "hold", "speed", "again", "begin", "end", "if", "east",
        "hot", "x", "12345", "0", "21", "99", "100", "5", ";", "<", "+"};

    private final Bench bench = new Bench("ModelTest");
    private final Random random;
    private BeamPlate plate;
    private Model model;
    private long faults = 0;

    private ModelTest(long seed) {
        random = new Random(seed);
    }

    public static void main(String[] args) {
        ModelTest test = new ModelTest(args.length > 0 ? Long.parseLong(args[0]) : 20261117L);
        int runs = args.length > 1 ? Integer.parseInt(args[1]) : 300;
        for (int run = 0; run < runs && test.bench.wrong() == 0; run++) {
            test.play(run);
        }
        test.bench.due("some texts were faulty", test.faults > 50 ? 1 : 0, 1);
        test.bench.finish();
    }

    private void play(int run) {
        plate = new BeamPlate();
        model = new Model();
        if (run % 10 != 0) {
            lay();
        }
        for (int calls = 0; calls < 480 && bench.wrong() == 0;) {
            calls += move();
        }
    }

    private int below(int n) {
        return random.nextInt(n);
    }

    /** Mostly from the range, now and then at or beyond its ends, or anything. */
    private int about(int least, int most) {
        int dice = below(60);
        if (dice == 0) {
            return random.nextInt();
        }
        if (dice == 1) {
            return least - 1;
        }
        if (dice == 2) {
            return most + 1;
        }
        if (dice == 3) {
            return least;
        }
        if (dice == 4) {
            return most;
        }
        return least + below(most - least + 1);
    }

    private void due(String call, long got, long want) {
        bench.due(call, got, want);
    }

    private static long one(boolean b) {
        return b ? 1 : 0;
    }

    /** A plate that most ways cut through at once, so that parts come loose. */
    private void lay() {
        stuff();
        int melt = 1 + below(40);
        int lead = below(3) == 0 ? below(21) : 0;
        int burn = 1 + below(200);
        for (int k = 0; k < 4; k++) {
            due("stuff", one(plate.stuff(k, melt, lead, 0, burn)), one(model.stuff(k, melt, lead, 0, burn)));
        }
        int strength = below(3) == 0 ? melt : 3 * melt;
        due("beam", one(plate.beam(strength, true)), one(model.beam(strength, true)));
        int wide = 7 + below(10);
        int high = 5 + below(8);
        due("plate", one(plate.plate(wide, high, 0, 1)), one(model.plate(wide, high, 0, 1)));
    }

    private void stuff() {
        int k = about(0, 3);
        int melt = below(4) == 0 ? about(1, 999) : about(1, 60);
        int lead = about(0, 20);
        int loss = below(2) == 0 ? 0 : about(0, 20);
        int burn = below(2) == 0 ? about(1, 9999) : about(1, 80);
        due("stuff " + k, one(plate.stuff(k, melt, lead, loss, burn)), one(model.stuff(k, melt, lead, loss, burn)));
    }

    private void beam() {
        int strength = below(3) == 0 ? about(0, 9999) : about(0, 200);
        boolean gas = below(5) != 0;
        due("beam " + strength, one(plate.beam(strength, gas)), one(model.beam(strength, gas)));
    }

    private void plate() {
        int wide = about(1, 16);
        int high = about(1, 12);
        int stuff = about(0, 3);
        int thick = below(2) == 0 ? 1 : about(1, 9);
        due("plate " + wide + " " + high, one(plate.plate(wide, high, stuff, thick)),
            one(model.plate(wide, high, stuff, thick)));
    }

    private void feed() {
        int[] n = new int[5];
        for (int i = 0; i < 5; i++) {
            n[i] = random.nextInt() & (below(2) == 0 ? 0x3f3f3f3f : -1);
        }
        due("feed", plate.feed(n[0], n[1], n[2], n[3], n[4]), model.feed(n[0], n[1], n[2], n[3], n[4]));
    }

    /** Puts a text on both tapes and tells how many calls that took. */
    private int put(String text) {
        due("end 0", one(plate.end(0)), one(model.end(0)));
        int calls = 2;
        for (int from = 0; from < text.length(); from += 20) {
            int[] n = new int[5];
            for (int i = 0; i < 20; i++) {
                n[i / 4] = n[i / 4] << 8 | (from + i < text.length() ? text.charAt(from + i) : ' ');
            }
            due("feed", plate.feed(n[0], n[1], n[2], n[3], n[4]), model.feed(n[0], n[1], n[2], n[3], n[4]));
            calls++;
        }
        due("end", one(plate.end(text.length())), one(model.end(text.length())));
        return calls;
    }

    private int way() {
        String text;
        do {
            text = below(2) == 0 ? frames() : steps(0, 2 + below(9));
        } while (text.length() > 390);
        if (below(4) == 0) {
            text = spoil(text);
        }
        int calls = put(text);
        int k = about(0, 7);
        due("way " + k + " " + text, one(plate.way(k)), one(model.way(k)));
        int what = about(0, 1);
        due("fault " + what + " of " + text, plate.fault(what), model.fault(what));
        due("fault 0 of " + text, plate.fault(0), model.fault(0));
        faults += plate.fault(0) > 0 ? 1 : 0;
        return calls + 3;
    }

    /** Frames one into another and cuts across them, so that parts come loose, lie on parts of the slats and are hit. */
    private String frames() {
        StringBuilder text = new StringBuilder("on; speed 1;");
        for (int i = 1 + below(3); i > 0; i--) {
            int wide = 1 + below(9);
            int high = 1 + below(6);
            text.append("to ").append(below(6)).append(' ').append(below(5)).append("; hold 1; go east ").append(wide)
                .append("; go north ").append(high).append("; go west ").append(wide).append("; go south ")
                .append(below(3) == 0 ? below(high) : high).append(';');
        }
        if (below(2) == 0) {
            text.append("to ").append(below(12)).append(' ').append(below(9)).append(";go ").append(SIDES[below(4)])
                .append(' ').append(below(9)).append(';');
        }
        return text.toString();
    }

    private String spoil(String text) {
        StringBuilder spoilt = new StringBuilder(text);
        for (int i = below(3); i >= 0; i--) {
            int at = below(spoilt.length() + 1);
            switch (below(4)) {
                case 0:
                    spoilt.insert(at, SIGNS.charAt(below(SIGNS.length())));
                    break;
                case 1:
                    spoilt.insert(at, " " + WORDS[below(WORDS.length)] + " ");
                    break;
                case 2:
                    spoilt.setLength(at);
                    break;
                default:
                    if (at < spoilt.length()) {
                        spoilt.deleteCharAt(at);
                    }
                    break;
            }
        }
        return spoilt.substring(0, Math.min(400, spoilt.length()));
    }

    private String steps(int depth, int count) {
        StringBuilder text = new StringBuilder();
        for (int i = 0; i < count; i++) {
            text.append(step(depth)).append(blank()).append(';').append(blank());
        }
        return text.toString();
    }

    private String blank() {
        return below(3) == 0 ? " " : below(20) == 0 ? "\n " : "";
    }

    private String step(int depth) {
        int dice = below(depth < 4 ? 16 : below(25) == 0 ? 16 : 12);
        switch (dice) {
            case 0: case 1: return "on";
            case 2: return "off";
            case 3: case 4: case 5: return "to " + below(16) + " " + below(12);
            case 6: case 7: case 8: case 9: return "go " + SIDES[below(4)] + " " + below(below(5) == 0 ? 30 : 8);
            case 10: return "hold " + below(below(9) == 0 ? 1200 : 12);
            case 11: return "speed " + (below(20) == 0 ? below(30) : 1 + below(4));
            case 12: case 13:
                int often = below(20) == 0 ? below(120) : 1 + below(below(4) == 0 ? 40 : 4);
                return "again " + often + " begin " + steps(depth + 1, below(4)) + "end";
            default:
                return "if " + sum() + "<=>".charAt(below(3)) + sum() + " " + step(depth + 1);
        }
    }

    private String sum() {
        StringBuilder text = new StringBuilder(unit());
        for (int i = below(3); i > 0; i--) {
            text.append(below(2) == 0 ? '+' : '-').append(unit());
        }
        return text.toString();
    }

    private String unit() {
        return below(2) == 0 ? UNITS[below(5)] : Integer.toString(below(below(3) == 0 ? 9999 : 12));
    }

    /** One kind of call, or several that belong together; tells how many. */
    private int move() {
        switch (below(24)) {
            case 0: if (below(3) == 0) { stuff(); } return 1;
            case 1: if (below(3) == 0) { beam(); } else if (below(3) == 0) { plate(); } else { lay(); } return 6;
            case 2: int n = about(2, 9); due("pitch", one(plate.pitch(n)), one(model.pitch(n))); return 1;
            case 3: feed(); return 1;
            case 4: int e = about(0, 60); due("end", one(plate.end(e)), one(model.end(e))); return 1;
            case 5: case 6: case 7: return way();
            case 8: case 9: case 10: case 11: case 12: return run();
            case 13: case 14: return lookAll();
            case 15: case 16: return cells();
            case 17: return below(4) == 0 ? order() : 0;
            case 18: return speed();
            case 19: return fill();
            case 20: case 21: return tests();
            default: return sparks();
        }
    }

    private int run() {
        int k = about(0, 7);
        due("run " + k, plate.run(k), model.run(k));
        return 1;
    }

    private int lookAll() {
        for (int what = -1; what <= 14; what++) {
            due("look " + what, plate.look(what), model.look(what));
        }
        for (int what = -1; what <= 4; what++) {
            due("heat " + what, plate.heat(what), model.heat(what));
        }
        due("heat is kept", plate.heat(0), plate.heat(1) + plate.heat(2) + plate.heat(3));
        return 22;
    }

    private int cells() {
        for (int i = 0; i < 12; i++) {
            int x = about(0, 15);
            int y = about(0, 11);
            int what = about(0, 5);
            due("cell " + x + " " + y + " " + what, plate.cell(x, y, what), model.cell(x, y, what));
        }
        return 12;
    }

    private int order() {
        int set = below(5) == 0 ? about(0, 256) : 1 << below(8) | 1 << below(8) | 1 << below(8);
        for (int what = 0; what <= 2; what++) {
            due("order " + set + " " + what, plate.order(set, what), model.order(set, what));
        }
        return 3;
    }

    private int speed() {
        int side = about(0, 3);
        int n = below(3) == 0 ? about(1, 15) : about(1, 5);
        due("speed " + side + " " + n, plate.speed(side, n), model.speed(side, n));
        return 1;
    }

    private int fill() {
        int wide = about(1, 40);
        int high = about(1, 40);
        if (below(4) == 0) {
            int worth = about(0, 999);
            int w = below(2) == 0 ? about(1, 9) : wide;
            int h = below(2) == 0 ? about(1, 9) : high;
            due("kind", plate.kind(w, h, worth), model.kind(w, h, worth));
        } else {
            due("fill " + wide + " " + high, plate.fill(wide, high), model.fill(wide, high));
        }
        return 1;
    }

    private int tests() {
        int stuff = about(0, 3);
        int heat = below(5) == 0 ? about(1, 9999) : about(1, 999);
        int day = below(4) == 0 ? about(0, 999) : about(0, 30);
        boolean cut = below(4) == 0 ? random.nextBoolean() : heat > 300 + 100 * (stuff & 3);
        due("test", one(plate.test(stuff, heat, cut, day)), one(model.test(stuff, heat, cut, day)));
        int asked = about(0, 3);
        int when = below(2) == 0 ? about(0, 999) : about(0, 30);
        int what = about(0, 3);
        due("known", plate.known(asked, when, what), model.known(asked, when, what));
        return 2;
    }

    private int sparks() {
        int b = about(0, 256);
        int k = below(2) == 0 ? about(1, 99) : about(1, 5);
        if (below(3) == 0) {
            due("sparks", plate.sparks(), model.sparks());
        }
        due("lost", plate.lost(b, k), model.lost(b, k));
        return 2;
    }
}
