import java.util.ArrayDeque;
import java.util.ArrayList;
import java.util.Collections;
import java.util.HashMap;
import java.util.HashSet;
import java.util.List;
import java.util.Map;
import java.util.PriorityQueue;
import java.util.Set;
import java.util.TreeMap;
import java.util.regex.Matcher;
import java.util.regex.Pattern;

/** The document once more, written plainly and with all of the library, for BeamPlate to be held against. */
final class Model {
    private static final int NONE = -1;
    private static final Pattern TOKEN = Pattern.compile("[ \n]+|[a-zA-Z]+|[0-9]+|[^ \na-zA-Z0-9]", Pattern.DOTALL);
    private static final List<String> SIDES = List.of("east", "north", "west", "south");
    private static final int[] DX = {1, 0, -1, 0};
    private static final int[] DY = {0, 1, 0, -1};

    private final int[][] stuffs = {{100, 10, 2, 60}, {100, 10, 2, 60}, {100, 10, 2, 60}, {100, 10, 2, 60}};
    private int strength = 100;
    private boolean gas = true;
    private int pitch = 4;
    private String tape = "";
    private String sparks = "";
    private int fault = 0;
    private int faultPlace = NONE;
    private final List<List<Step>> ways = new ArrayList<>(Collections.nCopies(8, List.of()));
    private Sheet sheet = null;
    private final List<int[]> kinds = new ArrayList<>();
    private final List<int[]> tests = new ArrayList<>();

    /** A step of a way; it may end the run by Spent. */
    private interface Step {
        void go(Sheet sheet) throws Spent;
    }

    private interface Value {
        long of(Sheet sheet);
    }

    private static final class Spent extends Exception {
        private static final long serialVersionUID = 1;
    }

    private static final class Fault extends Exception {
        private static final long serialVersionUID = 1;
        final int kind;
        final int place;

        Fault(int kind, int place) {
            this.kind = kind;
            this.place = place;
        }
    }

    private record Spot(int x, int y) {
        Spot to(int side) {
            return new Spot(x + DX[side], y + DY[side]);
        }
    }

    /** A plate. */
    private final class Sheet {
        int wide;
        int high;
        int stuff;
        int thick;
        Map<Spot, Integer> heat = new HashMap<>();
        Map<Spot, Integer> gone = new HashMap<>();
        Set<Spot> burnt = new HashSet<>();
        Set<Spot> tipped = new HashSet<>();
        Spot head = new Spot(0, 0);
        boolean on = false;
        int speed = 5;
        int ticks = 0;
        int hits = 0;
        int spent = 0;
        long given = 0;
        long lost = 0;
        long carried = 0;
        int paid = 0;
        int runTicks = 0;

        Sheet copy() {
            Sheet s = new Sheet();
            s.wide = wide;
            s.high = high;
            s.stuff = stuff;
            s.thick = thick;
            s.heat = new HashMap<>(heat);
            s.gone = new HashMap<>(gone);
            s.burnt = new HashSet<>(burnt);
            s.tipped = new HashSet<>(tipped);
            s.head = head;
            s.on = on;
            s.speed = speed;
            s.ticks = ticks;
            s.hits = hits;
            s.spent = spent;
            s.given = given;
            s.lost = lost;
            s.carried = carried;
            return s;
        }

        boolean has(Spot c) {
            return c.x >= 0 && c.y >= 0 && c.x < wide && c.y < high;
        }

        boolean border(Spot c) {
            return c.x == 0 || c.y == 0 || c.x == wide - 1 || c.y == high - 1;
        }

        void pay() throws Spent {
            paid++;
            if (paid == 1000) {
                throw new Spent();
            }
        }

        boolean moveTo(Spot c) {
            if (!has(c)) {
                return false;
            }
            head = c;
            if (heat.containsKey(c) && tipped.contains(c)) {
                hits++;
            }
            return true;
        }

        void tick() throws Spent {
            int melt = stuffs[stuff][0];
            int lead = stuffs[stuff][1];
            int loss = stuffs[stuff][2];
            int burn = stuffs[stuff][3];
            if (on && heat.containsKey(head)) {
                long sum = heat.get(head) + strength;
                given += strength;
                lost += Math.max(0, sum - 99999999);
                heat.put(head, (int) Math.min(sum, 99999999));
            }
            Map<Spot, Integer> next = new HashMap<>();
            for (Spot c : heat.keySet()) {
                long sum = heat.get(c);
                for (int side = 0; side < 4; side++) {
                    Integer other = heat.get(c.to(side));
                    if (other != null) {
                        long more = Math.abs((long) other - heat.get(c)) * lead / 100;
                        sum += other > heat.get(c) ? more : -more;
                    }
                }
                long less = sum * loss / 100;
                lost += less;
                next.put(c, (int) (sum - less));
            }
            heat = next;
            boolean some = false;
            for (Spot c : List.copyOf(heat.keySet())) {
                if (gas && heat.get(c) >= melt * thick) {
                    carried += heat.remove(c);
                    gone.put(c, 1);
                    some = true;
                }
            }
            for (Spot c : heat.keySet()) {
                if (heat.get(c) >= burn) {
                    burnt.add(c);
                }
            }
            if (some) {
                loosen();
            }
            ticks++;
            runTicks++;
            pay();
        }

        Set<Spot> part(Spot c) {
            Set<Spot> found = new HashSet<>();
            ArrayDeque<Spot> open = new ArrayDeque<>();
            if (heat.containsKey(c)) {
                found.add(c);
                open.add(c);
            }
            while (!open.isEmpty()) {
                Spot here = open.pop();
                for (int side = 0; side < 4; side++) {
                    Spot there = here.to(side);
                    if (heat.containsKey(there) && found.add(there)) {
                        open.add(there);
                    }
                }
            }
            return found;
        }

        boolean held(Set<Spot> part) {
            return part.stream().anyMatch(this::border);
        }

        Set<Set<Spot>> parts() {
            Set<Set<Spot>> all = new HashSet<>();
            Set<Spot> seen = new HashSet<>();
            for (Spot c : heat.keySet()) {
                if (!seen.contains(c)) {
                    Set<Spot> part = part(c);
                    seen.addAll(part);
                    all.add(part);
                }
            }
            return all;
        }

        void loosen() {
            for (Set<Spot> part : parts()) {
                if (held(part)) {
                    continue;
                }
                int n = part.size();
                int sum = part.stream().mapToInt(Spot::x).sum();
                List<Spot> propped = part.stream().filter(c -> c.x % pitch == 0).toList();
                if (propped.isEmpty()) {
                    for (Spot c : part) {
                        carried += heat.remove(c);
                        gone.put(c, 2);
                    }
                } else if (propped.stream().noneMatch(c -> c.x * n <= sum)
                        || propped.stream().noneMatch(c -> c.x * n >= sum)) {
                    tipped.addAll(part);
                }
            }
        }

        int bridge(Spot from) {
            Set<Spot> own = part(from);
            if (held(own)) {
                return 0;
            }
            Map<Spot, Integer> best = new HashMap<>();
            PriorityQueue<Map.Entry<Spot, Integer>> open = new PriorityQueue<>(Map.Entry.comparingByValue());
            for (Spot c : own) {
                open.add(Map.entry(c, 0));
            }
            while (!open.isEmpty()) {
                Map.Entry<Spot, Integer> e = open.poll();
                Spot c = e.getKey();
                if (best.containsKey(c)) {
                    continue;
                }
                best.put(c, e.getValue());
                boolean there = heat.containsKey(c);
                if (there ? held(part(c)) : border(c)) {
                    return e.getValue();
                }
                for (int side = 0; side < 4; side++) {
                    Spot d = c.to(side);
                    if (has(d)) {
                        open.add(Map.entry(d, e.getValue() + (heat.containsKey(d) ? 0 : 1)));
                    }
                }
            }
            throw new IllegalStateException("no bridge");
        }

        long burntThere() {
            return burnt.stream().filter(heat::containsKey).count();
        }

        int run(List<Step> way) {
            paid = 0;
            runTicks = 0;
            try {
                for (Step s : way) {
                    s.go(this);
                }
            } catch (Spent e) {
                spent++;
            }
            return runTicks;
        }
    }

    /** A text's steps. */
    private static final class Parser {
        final List<String> words = new ArrayList<>();
        final List<Integer> places = new ArrayList<>();
        int at = 0;

        Parser(String text) {
            Matcher m = TOKEN.matcher(text);
            while (m.find()) {
                if (!m.group().isBlank() || m.group().charAt(0) != ' ' && m.group().charAt(0) != '\n') {
                    words.add(m.group());
                    places.add(m.start());
                }
            }
            words.add("");
            places.add(text.length());
        }

        Fault wrong(int kind) {
            return new Fault(kind, places.get(at));
        }

        String peek() {
            return words.get(at);
        }

        void need(String word) throws Fault {
            if (!peek().equals(word)) {
                throw wrong(1);
            }
            at++;
        }

        List<Step> whole() throws Fault {
            List<Step> all = steps(0);
            if (at != words.size() - 1) {
                throw wrong(1);
            }
            return all;
        }

        boolean begins() {
            return List.of("on", "off", "to", "go", "hold", "speed", "again", "if").contains(peek());
        }

        List<Step> steps(int open) throws Fault {
            List<Step> all = new ArrayList<>();
            while (begins()) {
                all.add(step(open));
                need(";");
            }
            return all;
        }

        int number(int least, int most) throws Fault {
            if (!peek().matches("[0-9]{1,4}")) {
                throw wrong(1);
            }
            int n = Integer.parseInt(peek());
            if (n < least || n > most) {
                throw wrong(2);
            }
            at++;
            return n;
        }

        Step step(int open) throws Fault {
            if (!begins()) {
                throw wrong(1);
            }
            String word = peek();
            if ((word.equals("again") || word.equals("if")) && open == 4) {
                throw wrong(3);
            }
            at++;
            switch (word) {
                case "on":
                case "off":
                    return s -> {
                        s.on = word.equals("on");
                        s.pay();
                    };
                case "to": {
                    Spot c = new Spot(number(0, 9999), number(0, 9999));
                    return s -> {
                        s.moveTo(c);
                        s.pay();
                    };
                }
                case "go": {
                    int side = SIDES.indexOf(peek());
                    if (side < 0) {
                        throw wrong(1);
                    }
                    at++;
                    int n = number(0, 9999);
                    return s -> {
                        s.pay();
                        for (int i = 0; i < n && s.moveTo(s.head.to(side)); i++) {
                            for (int t = s.speed; t > 0; t--) {
                                s.tick();
                            }
                        }
                    };
                }
                case "hold": {
                    int n = number(0, 9999);
                    return s -> {
                        s.pay();
                        for (int i = 0; i < n; i++) {
                            s.tick();
                        }
                    };
                }
                case "speed": {
                    int n = number(1, 20);
                    return s -> {
                        s.speed = n;
                        s.pay();
                    };
                }
                case "again": {
                    int n = number(1, 99);
                    need("begin");
                    List<Step> body = steps(open + 1);
                    need("end");
                    return s -> {
                        s.pay();
                        for (int i = 0; i < n; i++) {
                            for (Step inner : body) {
                                inner.go(s);
                            }
                        }
                    };
                }
                default: {
                    Value left = sum();
                    String relation = peek();
                    if (!List.of("<", "=", ">").contains(relation)) {
                        throw wrong(1);
                    }
                    at++;
                    Value right = sum();
                    Step inner = step(open + 1);
                    return s -> {
                        s.pay();
                        int compared = Long.compare(left.of(s), right.of(s));
                        if (compared == "<=>".indexOf(relation) - 1) {
                            inner.go(s);
                        }
                    };
                }
            }
        }

        Value sum() throws Fault {
            Value all = unit();
            while (peek().equals("+") || peek().equals("-")) {
                int sign = peek().equals("+") ? 1 : -1;
                at++;
                Value left = all;
                Value right = unit();
                all = s -> left.of(s) + sign * right.of(s);
            }
            return all;
        }

        Value unit() throws Fault {
            String word = peek();
            switch (word) {
                case "hot": at++; return s -> s.heat.getOrDefault(s.head, 0);
                case "x": at++; return s -> s.head.x;
                case "y": at++; return s -> s.head.y;
                case "tick": at++; return s -> s.runTicks;
                case "cut": at++; return s -> s.heat.containsKey(s.head) ? 0 : 1;
                default:
                    int n = number(0, 9999);
                    return s -> n;
            }
        }
    }

    private static boolean in(int v, int least, int most) {
        return v >= least && v <= most;
    }

    boolean stuff(int k, int melt, int lead, int loss, int burn) {
        boolean can = in(k, 0, 3) && in(melt, 1, 999) && in(lead, 0, 20) && in(loss, 0, 20) && in(burn, 1, 9999);
        if (can) {
            stuffs[k] = new int[] {melt, lead, loss, burn};
        }
        return can;
    }

    boolean plate(int wide, int high, int stuff, int thick) {
        if (!in(wide, 1, 16) || !in(high, 1, 12) || !in(stuff, 0, 3) || !in(thick, 1, 9)) {
            return false;
        }
        sheet = new Sheet();
        sheet.wide = wide;
        sheet.high = high;
        sheet.stuff = stuff;
        sheet.thick = thick;
        for (int x = 0; x < wide; x++) {
            for (int y = 0; y < high; y++) {
                sheet.heat.put(new Spot(x, y), 0);
            }
        }
        return true;
    }

    boolean beam(int newStrength, boolean newGas) {
        if (!in(newStrength, 0, 9999)) {
            return false;
        }
        strength = newStrength;
        gas = newGas;
        return true;
    }

    boolean pitch(int n) {
        if (in(n, 2, 9)) {
            pitch = n;
            return true;
        }
        return false;
    }

    int feed(int a, int b, int c, int d, int e) {
        if (tape.length() > 380) {
            return NONE;
        }
        StringBuilder text = new StringBuilder(tape);
        for (int n : new int[] {a, b, c, d, e}) {
            for (byte part : java.nio.ByteBuffer.allocate(4).putInt(n).array()) {
                text.append((char) (part & 255));
            }
        }
        tape = text.toString();
        return tape.length();
    }

    boolean end(int n) {
        if (!in(n, 0, tape.length())) {
            return false;
        }
        tape = tape.substring(0, n);
        return true;
    }

    boolean way(int k) {
        String text = tape;
        tape = "";
        fault = 0;
        faultPlace = NONE;
        if (!in(k, 0, 7)) {
            return false;
        }
        try {
            ways.set(k, new Parser(text).whole());
            return true;
        } catch (Fault f) {
            fault = f.kind;
            faultPlace = f.place;
            return false;
        }
    }

    int fault(int what) {
        return what == 0 ? fault : what == 1 ? faultPlace : NONE;
    }

    int run(int k) {
        return in(k, 0, 7) && sheet != null ? sheet.run(ways.get(k)) : NONE;
    }

    int cell(int x, int y, int what) {
        Spot c = new Spot(x, y);
        if (sheet == null || !sheet.has(c) || !in(what, 0, 5)) {
            return NONE;
        }
        boolean there = sheet.heat.containsKey(c);
        Set<Spot> part = sheet.part(c);
        return switch (what) {
            case 0 -> sheet.heat.getOrDefault(c, 0);
            case 1 -> there ? sheet.tipped.contains(c) ? 3 : 0 : sheet.gone.get(c);
            case 2 -> sheet.burnt.contains(c) ? 1 : 0;
            case 3 -> part.size();
            case 4 -> sheet.held(part) ? 1 : 0;
            default -> there ? sheet.bridge(c) : NONE;
        };
    }

    int look(int what) {
        if (!in(what, 0, 13)) {
            return NONE;
        }
        if (sheet == null) {
            return 0;
        }
        return switch (what) {
            case 0 -> sheet.ticks;
            case 1 -> sheet.head.x;
            case 2 -> sheet.head.y;
            case 3 -> sheet.on ? 1 : 0;
            case 4 -> sheet.speed;
            case 5 -> sheet.hits;
            case 6 -> sheet.heat.size();
            case 7 -> Collections.frequency(sheet.gone.values(), 1);
            case 8 -> Collections.frequency(sheet.gone.values(), 2);
            case 9 -> sheet.tipped.size();
            case 10 -> (int) sheet.burntThere();
            case 11 -> sheet.parts().size();
            case 12 -> (int) sheet.parts().stream().filter(p -> !sheet.held(p)).count();
            default -> sheet.spent;
        };
    }

    long heat(int what) {
        if (!in(what, 0, 3)) {
            return NONE;
        }
        if (sheet == null) {
            return 0;
        }
        return switch (what) {
            case 0 -> sheet.given;
            case 1 -> sheet.heat.values().stream().mapToLong(Integer::longValue).sum();
            case 2 -> sheet.lost;
            default -> sheet.carried;
        };
    }

    int order(int set, int what) {
        if (sheet == null || !in(set, 1, 255) || Integer.bitCount(set) > 3 || !in(what, 0, 2)) {
            return NONE;
        }
        TreeMap<Long, int[]> ranked = new TreeMap<>();
        permute(set, "9", sheet, ranked);
        return ranked.firstEntry().getValue()[what];
    }

    private void permute(int rest, String order, Sheet before, TreeMap<Long, int[]> ranked) {
        if (rest == 0) {
            int[] row = {(int) before.burntThere(), before.ticks - sheet.ticks, Integer.parseInt(order)};
            ranked.put((row[0] * 10000L + row[1]) * 10000L + row[2], row);
        }
        for (int k = 0; k < 8; k++) {
            if ((rest & 1 << k) != 0) {
                Sheet after = before.copy();
                after.run(ways.get(k));
                permute(rest & ~(1 << k), order + k, after, ranked);
            }
        }
    }

    int speed(int side, int n) {
        if (sheet == null || !in(side, 0, 3) || !in(n, 1, 15)) {
            return NONE;
        }
        for (int speed = 1; speed <= 20; speed++) {
            Sheet s = sheet.copy();
            s.speed = speed;
            try {
                s.run(new Parser("on; go " + SIDES.get(side) + " " + n + ";").whole());
            } catch (Fault f) {
                throw new IllegalStateException(f);
            }
            Spot c = sheet.head;
            boolean all = true;
            for (int i = 0; i < n; i++) {
                c = c.to(side);
                all &= s.gone.containsKey(c);
            }
            if (all) {
                return speed;
            }
        }
        return NONE;
    }

    int kind(int wide, int high, int worth) {
        if (!in(wide, 1, 40) || !in(high, 1, 40) || !in(worth, 0, 999) || kinds.size() == 6) {
            return NONE;
        }
        kinds.add(new int[] {wide, high, worth});
        return kinds.size() - 1;
    }

    int fill(int wide, int high) {
        return in(wide, 0, 40) && in(high, 0, 40) ? fill(wide, high, new HashMap<>()) : NONE;
    }

    private int fill(int wide, int high, Map<Spot, Integer> known) {
        Spot size = new Spot(wide, high);
        if (known.containsKey(size)) {
            return known.get(size);
        }
        int best = 0;
        for (int[] k : kinds) {
            if (k[0] == wide && k[1] == high || k[0] == high && k[1] == wide) {
                best = Math.max(best, k[2]);
            }
        }
        for (int i = 1; i < wide; i++) {
            best = Math.max(best, fill(i, high, known) + fill(wide - i, high, known));
        }
        for (int i = 1; i < high; i++) {
            best = Math.max(best, fill(wide, i, known) + fill(wide, high - i, known));
        }
        known.put(size, best);
        return best;
    }

    boolean test(int stuff, int heat, boolean cut, int day) {
        boolean early = !tests.isEmpty() && day < tests.get(tests.size() - 1)[3];
        if (!in(stuff, 0, 3) || !in(heat, 1, 9999) || !in(day, 0, 999) || early || tests.size() == 200) {
            return false;
        }
        tests.add(new int[] {stuff, heat, cut ? 1 : 0, day});
        return true;
    }

    int known(int stuff, int day, int what) {
        if (!in(stuff, 0, 3) || !in(day, 0, 999) || !in(what, 0, 3)) {
            return NONE;
        }
        // Of all melts those that no test rules out.
        int least = 1 + tests.stream().filter(t -> t[0] == stuff && t[3] <= day && t[2] == 0)
            .mapToInt(t -> t[1]).max().orElse(0);
        int most = Math.min(999, tests.stream().filter(t -> t[0] == stuff && t[3] <= day && t[2] == 1)
            .mapToInt(t -> t[1]).min().orElse(999));
        int left = Math.max(0, most - least + 1);
        return what == 0 ? least : what == 1 ? most : what == 2 ? (left == 0 ? 1 : 0)
            : left < 2 ? NONE : Math.floorDiv(least + most, 2);
    }

    int sparks() {
        sparks = tape;
        tape = "";
        return sparks.length();
    }

    int lost(int b, int k) {
        if (!in(b, 0, 256) || !in(k, 1, 99)) {
            return NONE;
        }
        for (int from = 0; from + k <= sparks.length(); from++) {
            if (sparks.substring(from, from + k).chars().allMatch(c -> c < b)) {
                return from;
            }
        }
        return NONE;
    }
}
