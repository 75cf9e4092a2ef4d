import java.util.ArrayList;
import java.util.List;
import java.util.Random;
import java.util.function.Consumer;

/**
 * Laws that follow from the document, seen through the class's face alone: what was tried must come so when it is done, and
 * what is told of the whole must be what is told of its cells.
 */
public final class LawsTest {
    private static final Bench BENCH = new Bench("LawsTest");
    private static final String[] SIDES = {"east", "north", "west", "south"};
    private static final int[] DX = {1, 0, -1, 0};
    private static final int[] DY = {0, 1, 0, -1};

    /** Calls that can be made again on new objects, so that none of them comes to its 512th call. */
    private record Story(int wide, int high, int melt, int pitch, List<Consumer<BeamPlate>> calls) {
        BeamPlate told() {
            BeamPlate plate = new BeamPlate();
            for (Consumer<BeamPlate> call : calls) {
                call.accept(plate);
            }
            return plate;
        }
    }

    /** What a plate tells of itself, asked once. */
    private static final class Seen {
        final int wide;
        final int high;
        final int melt;
        final int pitch;
        final int[][][] cells;
        final int[] looks = new int[14];
        final long[] heats = new long[4];

        Seen(Story story, BeamPlate plate) {
            wide = story.wide;
            high = story.high;
            melt = story.melt;
            pitch = story.pitch;
            cells = new int[wide][high][6];
            for (int x = 0; x < wide; x++) {
                for (int y = 0; y < high; y++) {
                    for (int what = 0; what < 6; what++) {
                        cells[x][y][what] = plate.cell(x, y, what);
                    }
                }
            }
            for (int what = 0; what < looks.length; what++) {
                looks[what] = plate.look(what);
            }
            for (int what = 0; what < heats.length; what++) {
                heats[what] = plate.heat(what);
            }
        }

        boolean has(int x, int y) {
            return x >= 0 && y >= 0 && x < wide && y < high;
        }

        boolean isThere(int x, int y) {
            return has(x, y) && (cells[x][y][1] == 0 || cells[x][y][1] == 3);
        }

        boolean isBorder(int x, int y) {
            return x == 0 || y == 0 || x == wide - 1 || y == high - 1;
        }
    }

    public static void main(String[] args) {
        long seed = args.length > 0 ? Long.parseLong(args[0]) : 11;
        int stories = args.length > 1 ? Integer.parseInt(args[1]) : 2000;
        Random random = new Random(seed);
        for (int i = 0; i < stories; i++) {
            Story story = story(random);
            Seen seen = new Seen(story, story.told());
            heatIsNeitherMadeNorForgotten(seen);
            countsAreThoseOfTheCells(seen);
            partsHangTogether(seen);
            noPartHangsInTheAir(seen);
            bridgesHold(seen);
            ordersComeAsTried(story, random);
            speedsComeAsTried(story, seen, random);
        }
        for (int i = 0; i < 20; i++) {
            fillingsFit(random);
        }
        BENCH.finish();
    }

    private static Story story(Random random) {
        int wide = random.nextInt(4) > 0 ? 6 + random.nextInt(4) : 1 + random.nextInt(9);
        int high = random.nextInt(4) > 0 ? 5 + random.nextInt(3) : 1 + random.nextInt(7);
        int thick = 1 + random.nextInt(2);
        int melt = 5 + random.nextInt(60);
        int lead = random.nextInt(21);
        int loss = random.nextInt(21);
        int burn = 1 + random.nextInt(80);
        int strength = random.nextInt(4) == 0 ? random.nextInt(10000) : 1 + random.nextInt(2 * melt * thick);
        int pitch = 2 + random.nextInt(8);
        List<Consumer<BeamPlate>> calls = new ArrayList<>();
        calls.add(p -> p.pitch(pitch));
        calls.add(p -> p.plate(wide, high, 3, thick));
        String rings = rings(random, wide, high);
        calls.add(p -> cutOnly(p, rings, thick));
        calls.add(p -> p.stuff(3, melt, lead, loss, burn));
        calls.add(p -> p.beam(strength, true));
        for (int k = 0; k < 4; k++) {
            int way = k;
            String text = text(random, wide, high);
            calls.add(p -> BENCH.yes(text, Bench.way(p, way, text)));
        }
        for (int k = random.nextInt(3); k >= 0; k--) {
            int way = k;
            calls.add(p -> p.run(way));
        }
        return new Story(wide, high, melt * thick, pitch, calls);
    }

    /** Lets a text run that heats nothing but what it cuts, each cell in one tick. */
    private static void cutOnly(BeamPlate plate, String text, int thick) {
        plate.stuff(3, 1, 0, 0, 9999);
        plate.beam(thick, true);
        Bench.run(plate, text);
    }

    private static String text(Random random, int wide, int high) {
        StringBuilder text = new StringBuilder(random.nextInt(5) == 0 ? "off;" : "on;");
        for (int i = 2 + random.nextInt(6); i > 0; i--) {
            switch (random.nextInt(6)) {
                case 0 -> text.append("to " + random.nextInt(wide) + " " + random.nextInt(high));
                case 1 -> text.append("hold " + random.nextInt(6));
                case 2 -> text.append("speed " + (1 + random.nextInt(5)));
                case 3 -> text.append("if hot>" + random.nextInt(40) + " go " + SIDES[random.nextInt(4)] + " 2");
                default -> text.append("go " + SIDES[random.nextInt(4)] + " " + random.nextInt(7));
            }
            text.append(';');
        }
        return text.toString();
    }

    /** A way around some inner oblong, and around one within it, so that parts come loose. */
    private static String rings(Random random, int wide, int high) {
        int x = 1 + random.nextInt(2);
        int y = 1 + random.nextInt(2);
        int across = Math.max(2, wide - x - 2 - random.nextInt(2));
        int up = Math.max(2, high - y - 2 - random.nextInt(2));
        int gap = random.nextInt(3);
        String text = "on; speed 1;" + ring(x, y, across, up);
        if (gap > 0 && across > 2 * gap && up > 2 * gap) {
            text += ring(x + gap, y + gap, across - 2 * gap, up - 2 * gap);
        }
        return text + "off; speed 5; to " + random.nextInt(wide) + " " + random.nextInt(high) + ";";
    }

    private static String ring(int x, int y, int across, int up) {
        return "to " + x + " " + y + "; if x=" + x + " if y=" + y + " hold 1; go east " + across + "; go north " + up
            + "; go west " + across + "; go south " + up + ";";
    }

    private static void heatIsNeitherMadeNorForgotten(Seen seen) {
        long[] heats = seen.heats;
        BENCH.due("GIVEN is in the cells, LOST or CARRIED off", heats[1] + heats[2] + heats[3], heats[0]);
        BENCH.yes("no heat below 0", heats[1] >= 0 && heats[2] >= 0 && heats[3] >= 0);
        long sum = 0;
        for (int x = 0; x < seen.wide; x++) {
            for (int y = 0; y < seen.high; y++) {
                int heat = seen.cells[x][y][0];
                sum += heat;
                BENCH.yes("a cell that is there is below what cuts it", heat >= 0 && heat < seen.melt);
            }
        }
        BENCH.due("heat(1) is the cells' heat", heats[1], sum);
    }

    private static void countsAreThoseOfTheCells(Seen seen) {
        int[] conditions = new int[4];
        int burntThere = 0;
        for (int x = 0; x < seen.wide; x++) {
            for (int y = 0; y < seen.high; y++) {
                int[] cell = seen.cells[x][y];
                conditions[cell[1]]++;
                burntThere += seen.isThere(x, y) ? cell[2] : 0;
                BENCH.yes("what is not there is cold", seen.isThere(x, y) || cell[0] == 0);
            }
        }
        BENCH.due("look(6)", seen.looks[6], conditions[0] + conditions[3]);
        BENCH.due("look(7)", seen.looks[7], conditions[1]);
        BENCH.due("look(8)", seen.looks[8], conditions[2]);
        BENCH.yes("look(9)", seen.looks[9] >= conditions[3]);
        BENCH.due("look(10)", seen.looks[10], burntThere);
    }

    private static void partsHangTogether(Seen seen) {
        boolean[][] met = new boolean[seen.wide][seen.high];
        int parts = 0;
        int loose = 0;
        for (int x = 0; x < seen.wide; x++) {
            for (int y = 0; y < seen.high; y++) {
                if (!seen.isThere(x, y)) {
                    BENCH.due("what is not there has no part", seen.cells[x][y][3] + seen.cells[x][y][4], 0);
                }
                List<int[]> part = part(seen, x, y, met);
                boolean held = part.stream().anyMatch(c -> seen.isBorder(c[0], c[1]));
                parts += part.isEmpty() ? 0 : 1;
                loose += part.isEmpty() || held ? 0 : 1;
                for (int[] c : part) {
                    BENCH.due("cell(x, y, 3)", seen.cells[c[0]][c[1]][3], part.size());
                    BENCH.due("cell(x, y, 4)", seen.cells[c[0]][c[1]][4], held ? 1 : 0);
                }
            }
        }
        BENCH.due("look(11)", seen.looks[11], parts);
        BENCH.due("look(12)", seen.looks[12], loose);
    }

    /** The part of a cell; none if it is not there, or was met before. */
    private static List<int[]> part(Seen seen, int x, int y, boolean[][] met) {
        List<int[]> cells = new ArrayList<>();
        take(seen, x, y, met, cells);
        for (int i = 0; i < cells.size(); i++) {
            for (int side = 0; side < 4; side++) {
                take(seen, cells.get(i)[0] + DX[side], cells.get(i)[1] + DY[side], met, cells);
            }
        }
        return cells;
    }

    private static void take(Seen seen, int x, int y, boolean[][] met, List<int[]> cells) {
        if (seen.isThere(x, y) && !met[x][y]) {
            met[x][y] = true;
            cells.add(new int[] {x, y});
        }
    }

    /** Every part was looked at when the latest cell was cut, so each that is loose lies on a slat, still or tipped. */
    private static void noPartHangsInTheAir(Seen seen) {
        boolean[][] met = new boolean[seen.wide][seen.high];
        for (int x = 0; x < seen.wide; x++) {
            for (int y = 0; y < seen.high; y++) {
                List<int[]> part = part(seen, x, y, met);
                if (part.isEmpty() || seen.cells[x][y][4] == 1) {
                    continue;
                }
                double middle = part.stream().mapToInt(c -> c[0]).average().orElse(0);
                int[] slats = part.stream().mapToInt(c -> c[0]).filter(c -> c % seen.pitch == 0).sorted().toArray();
                BENCH.yes("a loose part lies on a slat", slats.length > 0);
                boolean still = slats.length > 0 && slats[0] <= middle && slats[slats.length - 1] >= middle;
                BENCH.yes("a loose part out of balance is tipped", still || seen.cells[x][y][1] == 3);
            }
        }
    }

    /** Whoever may go one cell that is not there to another part comes, for that cell more, wherever that part comes. */
    private static void bridgesHold(Seen seen) {
        for (int x = 0; x < seen.wide; x++) {
            for (int y = 0; y < seen.high; y++) {
                int bridge = seen.cells[x][y][5];
                if (!seen.isThere(x, y)) {
                    BENCH.due("no bridge of what is not there", bridge, BeamPlate.NONE);
                    continue;
                }
                BENCH.due("a bridge of 0 is that of a part that is held", bridge == 0 ? 1 : 0, seen.cells[x][y][4]);
                int border = Math.min(Math.min(x, seen.wide - 1 - x), Math.min(y, seen.high - 1 - y));
                BENCH.yes("never more than straight to the border", bridge <= border);
                for (int side = 0; side < 4; side++) {
                    bridgesBeside(seen, x, y, side);
                }
            }
        }
    }

    private static void bridgesBeside(Seen seen, int x, int y, int side) {
        int bridge = seen.cells[x][y][5];
        int nextX = x + DX[side];
        int nextY = y + DY[side];
        if (seen.isThere(nextX, nextY)) {
            BENCH.due("one part, one bridge", seen.cells[nextX][nextY][5], bridge);
            return;
        }
        for (int other = 0; other < 4 && seen.has(nextX, nextY); other++) {
            int farX = nextX + DX[other];
            int farY = nextY + DY[other];
            if (seen.isThere(farX, farY)) {
                BENCH.yes("across one cell", bridge <= seen.cells[farX][farY][5] + 1);
            }
        }
    }

    private static void ordersComeAsTried(Story story, Random random) {
        int set = 1 + random.nextInt(14);
        List<List<Integer>> orders = new ArrayList<>();
        addOrders(orders, List.of(), set);
        BeamPlate p = story.told();
        String before = Bench.seen(story.told(), story.wide, story.high);
        int burnt = p.order(set, 0);
        int ticks = p.order(set, 1);
        int order = p.order(set, 2);
        BENCH.yes("order changes nothing", Bench.seen(p, story.wide, story.high).equals(before));
        boolean met = false;
        for (List<Integer> ways : orders) {
            BeamPlate done = story.told();
            int doneTicks = 0;
            int digits = 9;
            for (int k : ways) {
                doneTicks += done.run(k);
                digits = digits * 10 + k;
            }
            int doneBurnt = done.look(10);
            if (digits == order) {
                met = true;
                BENCH.due("order(" + set + ", 0)", burnt, doneBurnt);
                BENCH.due("order(" + set + ", 1)", ticks, doneTicks);
            }
            boolean better = doneBurnt < burnt || doneBurnt == burnt
                && (doneTicks < ticks || doneTicks == ticks && digits < order);
            BENCH.no("order(" + set + ", 2) answered " + order + ", better is " + digits, better);
        }
        BENCH.yes("order(" + set + ", 2) answered " + order, met);
    }

    private static void addOrders(List<List<Integer>> orders, List<Integer> first, int rest) {
        if (rest == 0) {
            orders.add(first);
        }
        for (int k = 0; k < 8; k++) {
            if ((rest >> k & 1) == 1) {
                List<Integer> longer = new ArrayList<>(first);
                longer.add(k);
                addOrders(orders, longer, rest - (1 << k));
            }
        }
    }

    private static void speedsComeAsTried(Story story, Seen seen, Random random) {
        int side = random.nextInt(4);
        int n = 1 + random.nextInt(5);
        int x = seen.looks[1];
        int y = seen.looks[2];
        int least = BeamPlate.NONE;
        for (int speed = 20; speed >= 1 && seen.has(x + n * DX[side], y + n * DY[side]); speed--) {
            BeamPlate done = story.told();
            Bench.run(done, "speed " + speed + "; on; go " + SIDES[side] + " " + n + ";");
            boolean through = true;
            for (int i = 1; i <= n; i++) {
                through = through && done.cell(x + i * DX[side], y + i * DY[side], 3) == 0;
            }
            least = through ? speed : least;
        }
        BENCH.due("speed(" + side + ", " + n + ")", story.told().speed(side, n), least);
    }

    /** A filling is worth no less than its kinds and its two pieces, however it is cut, and no more than the best of them. */
    private static void fillingsFit(Random random) {
        BeamPlate p = new BeamPlate();
        int[][] kinds = new int[1 + random.nextInt(6)][];
        for (int k = 0; k < kinds.length; k++) {
            kinds[k] = new int[] {1 + random.nextInt(9), 1 + random.nextInt(9), random.nextInt(1000)};
            BENCH.due("kind", p.kind(kinds[k][0], kinds[k][1], kinds[k][2]), k);
        }
        int[][] worth = new int[19][19];
        for (int wide = 0; wide < worth.length; wide++) {
            for (int high = 0; high < worth.length; high++) {
                worth[wide][high] = p.fill(wide, high);
                int most = 0;
                for (int[] kind : kinds) {
                    boolean fits = kind[0] == wide && kind[1] == high || kind[0] == high && kind[1] == wide;
                    most = fits ? Math.max(most, kind[2]) : most;
                }
                for (int cut = 1; cut < wide; cut++) {
                    most = Math.max(most, worth[cut][high] + worth[wide - cut][high]);
                }
                for (int cut = 1; cut < high; cut++) {
                    most = Math.max(most, worth[wide][cut] + worth[wide][high - cut]);
                }
                BENCH.due("fill(" + wide + ", " + high + ")", worth[wide][high], most);
            }
        }
    }
}
