/** What the tests share: texts put on the tape, and answers held against those that are due. */
final class Bench {
    private final String name;
    private int checks = 0;
    private int wrong = 0;

    Bench(String name) {
        this.name = name;
    }

    void due(String call, long got, long want) {
        checks++;
        if (got != want) {
            wrong++;
            if (wrong <= 40) {
                System.out.println(name + ": " + call + " answered " + got + ", due is " + want);
            }
        }
    }

    void yes(String call, boolean got) {
        due(call, got ? 1 : 0, 1);
    }

    void no(String call, boolean got) {
        due(call, got ? 1 : 0, 0);
    }

    int wrong() {
        return wrong;
    }

    /** Ends the test: exit code 1 if an answer was wrong, or if nothing was held against anything. */
    void finish() {
        System.out.println(name + ": " + checks + " answers, " + wrong + " wrong");
        if (wrong != 0 || checks == 0) {
            System.exit(1);
        }
    }

    /** Puts the text's signs, each a byte, alone on the tape. */
    static void put(BeamPlate plate, String text) {
        plate.end(0);
        int[] five = new int[5];
        for (int from = 0; from < text.length(); from += 20) {
            for (int i = 0; i < 5; i++) {
                five[i] = 0;
                for (int j = 0; j < 4; j++) {
                    int at = from + 4 * i + j;
                    five[i] = five[i] << 8 | (at < text.length() ? text.charAt(at) & 255 : 32);
                }
            }
            plate.feed(five[0], five[1], five[2], five[3], five[4]);
        }
        plate.end(text.length());
    }

    static boolean way(BeamPlate plate, int k, String text) {
        put(plate, text);
        return plate.way(k);
    }

    /** Lets a text run as way 7. */
    static int run(BeamPlate plate, String text) {
        way(plate, 7, text);
        return plate.run(7);
    }
}
