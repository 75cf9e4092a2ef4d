/** What the tests share: texts put on the tape, and answers held against those that are due. */
final class Bench {
    private final String name;
    private int checks = 0;
    private int wrong = 0;

    Bench(String name) {
        this.name = name;
    }

    void due(String call, long got, long want) {
        checks++;
        if (got != want) {
            wrong++;
            if (wrong <= 40) {
                System.out.println(name + ": " + call + " answered " + got + ", due is " + want);
            }
        }
    }

    void yes(String call, boolean got) {
        due(call, got ? 1 : 0, 1);
    }

    void no(String call, boolean got) {
        due(call, got ? 1 : 0, 0);
    }

    int wrong() {
        return wrong;
    }

    /** Ends the test: exit code 1 if an answer was wrong, or if nothing was held against anything. */
    void finish() {
        System.out.println(name + ": " + checks + " answers, " + wrong + " wrong");
        if (wrong != 0 || checks == 0) {
            System.exit(1);
        }
    }

    /** Puts the text's signs, each a byte, alone on the tape. */
    static void put(BeamPlate plate, String text) {
        plate.end(0);
        int[] five = new int[5];
        for (int from = 0; from < text.length(); from += 20) {
            for (int i = 0; i < 5; i++) {
                five[i] = 0;
                for (int j = 0; j < 4; j++) {
                    int at = from + 4 * i + j;
                    five[i] = five[i] << 8 | (at < text.length() ? text.charAt(at) & 255 : 32);
                }
            }
            plate.feed(five[0], five[1], five[2], five[3], five[4]);
        }
        plate.end(text.length());
    }

    static boolean way(BeamPlate plate, int k, String text) {
        put(plate, text);
        return plate.way(k);
    }

    /** A plate of a stuff without lead and loss that is cut by 10 and never burns, under a beam that cuts in one tick. */
    static BeamPlate still(int wide, int high) {
        BeamPlate plate = new BeamPlate();
        plate.stuff(0, 10, 0, 0, 9999);
        plate.plate(wide, high, 0, 1);
        plate.beam(10, true);
        return plate;
    }

    /** All that can be seen of a plate, so that two of them can be held against one another. */
    static String seen(BeamPlate plate, int wide, int high) {
        StringBuilder all = new StringBuilder();
        for (int what = 0; what <= 13; what++) {
            all.append(plate.look(what)).append(' ');
        }
        for (int what = 0; what <= 3; what++) {
            all.append(plate.heat(what)).append(' ');
        }
        for (int y = 0; y < high; y++) {
            for (int x = 0; x < wide; x++) {
                for (int what = 0; what <= 5; what++) {
                    all.append(plate.cell(x, y, what)).append(' ');
                }
            }
        }
        return all.toString();
    }

    /** A way that cuts the cells beside one, as far as they are on a plate, under a beam that cuts in one tick. */
    static String around(int x, int y) {
        StringBuilder text = new StringBuilder("on;");
        int[][] sides = {{-1, 0}, {1, 0}, {0, -1}, {0, 1}};
        for (int[] side : sides) {
            int toX = x + side[0];
            int toY = y + side[1];
            if (toX >= 0 && toY >= 0) {
                text.append("to " + toX + " " + toY + "; if x=" + toX + " if y=" + toY + " hold 1;");
            }
        }
        return text.toString();
    }

    /** Lets a text run as way 7. */
    static int run(BeamPlate plate, String text) {
        way(plate, 7, text);
        return plate.run(7);
    }
}
