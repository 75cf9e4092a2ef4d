import java.util.Arrays;

/**
 * A works that cuts plates by a beam: its ways, the heat in its plates, the parts that come loose, trials of what would
 * be, plates filled by straight cuts, test cuts of its stuffs, and rows of sparks.
 */
public final class BeamPlate {
    public static final int NONE = -1;

    private static final int STUFF_COUNT = 4;
    private static final int LAST_DAY = 999;
    private static final int MOST_TAPE = 400;
    private static final int LEAST_SPEED = 1;
    private static final int MOST_SPEED = 20;

    private final Works works = new Works();
    private final Row tape = new Row(MOST_TAPE);
    private final Row sparkRow = new Row(MOST_TAPE);
    private final Reader reader = new Reader();
    private final Plate plate = new Plate();
    private final Runner runner = new Runner();
    private final Trials trials = new Trials();
    private final Filling filling = new Filling();
    private final TestBook testBook = new TestBook();
    private int faultKind = 0;
    private int faultPlace = NONE;

    public BeamPlate() {
    }

    public boolean stuff(int k, int melt, int lead, int loss, int burn) {
        return works.setStuff(k, melt, lead, loss, burn);
    }

    public boolean plate(int wide, int high, int stuff, int thick) {
        if (!within(wide, 1, Plate.MOST_WIDE) || !within(high, 1, Plate.MOST_HIGH)
                || !within(stuff, 0, STUFF_COUNT - 1) || !within(thick, 1, 9)) {
            return false;
        }
        plate.renew(wide, high, stuff, thick);
        return true;
    }

    public boolean beam(int strength, boolean gas) {
        if (!within(strength, 0, 9999)) {
            return false;
        }
        works.strength = strength;
        works.gas = gas;
        return true;
    }

    public boolean pitch(int n) {
        if (!within(n, 2, 9)) {
            return false;
        }
        works.slatPitch = n;
        return true;
    }

    public int feed(int a, int b, int c, int d, int e) {
        if (tape.size + 20 > MOST_TAPE) {
            return NONE;
        }
        tape.addBytes(a);
        tape.addBytes(b);
        tape.addBytes(c);
        tape.addBytes(d);
        tape.addBytes(e);
        return tape.size;
    }

    public boolean end(int n) {
        if (!within(n, 0, tape.size)) {
            return false;
        }
        tape.size = n;
        return true;
    }

    public boolean way(int k) {
        faultKind = 0;
        faultPlace = NONE;
        boolean done = false;
        Row program = works.programOf(k);
        if (program != null) {
            done = reader.read(tape);
            faultKind = reader.fault;
            faultPlace = reader.faultPlace;
            if (done) {
                program.copyFrom(reader.program);
            }
        }
        tape.size = 0;
        return done;
    }

    public int fault(int what) {
        switch (what) {
            case 0: return faultKind;
            case 1: return faultPlace;
            default: return NONE;
        }
    }

    public int run(int k) {
        Row program = works.programOf(k);
        if (program == null || !plate.isLaid()) {
            return NONE;
        }
        return runner.perform(program, plate, works);
    }

    public int cell(int x, int y, int what) {
        if (!plate.has(x, y)) {
            return NONE;
        }
        int place = plate.index(x, y);
        switch (what) {
            case 0: return plate.heat[place];
            case 1: return plate.condition(place);
            case 2: return plate.burnt[place];
            case 3: return plate.partAt(place).size;
            case 4: return plate.partAt(place).held ? 1 : 0;
            case 5: return plate.isThere(place) ? plate.bridge(place) : NONE;
            default: return NONE;
        }
    }

    public int look(int what) {
        if (!within(what, 0, 13)) {
            return NONE;
        }
        if (!plate.isLaid()) {
            return 0;
        }
        switch (what) {
            case 0: return plate.ticks;
            case 1: return plate.head.x;
            case 2: return plate.head.y;
            case 3: return plate.head.on ? 1 : 0;
            case 4: return plate.head.speed;
            case 5: return plate.head.hits;
            case 6: return plate.countState(Plate.THERE);
            case 7: return plate.countState(Plate.CUT);
            case 8: return plate.countState(Plate.FALLEN);
            case 9: return plate.countTipped();
            case 10: return plate.countBurntThere();
            case 11: return plate.countParts(false);
            case 12: return plate.countParts(true);
            default: return plate.spentRuns;
        }
    }

    public long heat(int what) {
        switch (what) {
            case 0: return plate.given;
            case 1: return plate.heatInAll();
            case 2: return plate.lostHeat;
            case 3: return plate.carried;
            default: return NONE;
        }
    }

    public int order(int set, int what) {
        boolean possible = within(set, 1, (1 << Works.WAY_COUNT) - 1) && Integer.bitCount(set) <= Trials.MOST_WAYS;
        if (!possible || !plate.isLaid() || !within(what, 0, 2)) {
            return NONE;
        }
        trials.seekOrder(works, plate, set);
        switch (what) {
            case 0: return trials.bestBurnt;
            case 1: return trials.bestTicks;
            default: return trials.bestOrder;
        }
    }

    public int speed(int side, int n) {
        if (!within(side, 0, 3) || !within(n, 1, 15) || !plate.isLaid()) {
            return NONE;
        }
        return trials.leastSpeed(works, plate, side, n);
    }

    public int kind(int wide, int high, int worth) {
        return filling.addKind(wide, high, worth);
    }

    public int fill(int wide, int high) {
        return filling.greatestWorth(wide, high);
    }

    public boolean test(int stuff, int heat, boolean cut, int day) {
        return testBook.tell(stuff, heat, cut, day);
    }

    public int known(int stuff, int day, int what) {
        if (!within(stuff, 0, STUFF_COUNT - 1) || !within(day, 0, LAST_DAY)) {
            return NONE;
        }
        int least = testBook.leastMelt(stuff, day);
        int greatest = testBook.greatestMelt(stuff, day);
        switch (what) {
            case 0: return least;
            case 1: return greatest;
            case 2: return least > greatest ? 1 : 0;
            case 3: return least < greatest ? (least + greatest) / 2 : NONE;
            default: return NONE;
        }
    }

    public int sparks() {
        sparkRow.copyFrom(tape);
        tape.size = 0;
        return sparkRow.size;
    }

    public int lost(int b, int k) {
        if (!within(b, 0, 256) || !within(k, 1, 99)) {
            return NONE;
        }
        return sparkRow.firstRunBelow(b, k);
    }

    private static boolean within(int value, int least, int most) {
        return value >= least && value <= most;
    }

    private static int stepX(int side) {
        return side == 0 ? 1 : side == 2 ? -1 : 0;
    }

    private static int stepY(int side) {
        return side == 1 ? 1 : side == 3 ? -1 : 0;
    }

    /** What holds for every plate: the stuffs' numbers, the beam's strength, the gas, the slats, and the ways. */
    private static final class Works {
        static final int WAY_COUNT = 8;

        final int[] melts = {100, 100, 100, 100};
        final int[] leads = {10, 10, 10, 10};
        final int[] losses = {2, 2, 2, 2};
        final int[] burns = {60, 60, 60, 60};
        int strength = 100;
        boolean gas = true;
        int slatPitch = 4;
        private final Row[] programs = new Row[WAY_COUNT];

        Works() {
            for (int k = 0; k < WAY_COUNT; k++) {
                programs[k] = new Row(Reader.MOST_PROGRAM);
            }
        }

        boolean setStuff(int k, int melt, int lead, int loss, int burn) {
            if (!within(k, 0, STUFF_COUNT - 1) || !within(melt, 1, 999) || !within(lead, 0, 20)
                    || !within(loss, 0, 20) || !within(burn, 1, 9999)) {
                return false;
            }
            melts[k] = melt;
            leads[k] = lead;
            losses[k] = loss;
            burns[k] = burn;
            return true;
        }

        /** The program of a way; null if there is no such way. */
        Row programOf(int k) {
            return within(k, 0, WAY_COUNT - 1) ? programs[k] : null;
        }

        boolean hasSlatAt(int x) {
            return slatPitch > 0 && x % slatPitch == 0;
        }
    }

    /** A row of numbers of bounded length: the tape, the sparks, and a way's program. */
    private static final class Row {
        final int[] items;
        int size = 0;

        Row(int most) {
            items = new int[Math.max(0, most)];
        }

        void add(int number) {
            if (size < items.length) {
                items[size] = number;
                size++;
            }
        }

        void addBytes(int number) {
            for (int shift = 24; shift >= 0; shift -= 8) {
                add(number >>> shift & 255);
            }
        }

        void put(int place, int number) {
            if (place >= 0 && place < size) {
                items[place] = number;
            }
        }

        int at(int place) {
            return place >= 0 && place < size ? items[place] : NONE;
        }

        void copyFrom(Row other) {
            size = Math.min(other.size, items.length);
            System.arraycopy(other.items, 0, items, 0, size);
        }

        int firstRunBelow(int bound, int length) {
            int run = 0;
            for (int i = 0; i < size; i++) {
                run = items[i] < bound ? run + 1 : 0;
                if (run == length) {
                    return i - length + 1;
                }
            }
            return NONE;
        }
    }

    /** The tokens of a text; a step's keyword also stands for that step in a program. */
    private static final class Tokens {
        static final int NOTHING = 0;
        static final int FINISH = 1;
        static final int NUMBER = 2;
        static final int SEMICOLON = 3;
        static final int PLUS = 4;
        static final int MINUS = 5;
        static final int LESS = 6;
        static final int EQUAL = 7;
        static final int GREATER = 8;
        // The keywords are numbered as they stand in KEYWORDS, those that begin a step first.
        static final String KEYWORDS =
                "on off to go hold speed again if begin end east north west south hot x y tick cut ";
        static final int ON = 9;
        static final int OFF = 10;
        static final int TO = 11;
        static final int GO = 12;
        static final int HOLD = 13;
        static final int SPEED = 14;
        static final int AGAIN = 15;
        static final int IF = 16;
        static final int BEGIN = 17;
        static final int END = 18;
        static final int EAST = 19;
        static final int SOUTH = 22;
        static final int HOT = 23;
        static final int X = 24;
        static final int Y = 25;
        static final int TICK = 26;
        static final int CUT = 27;

        final Row kinds = new Row(MOST_TAPE + 1);
        final Row places = new Row(MOST_TAPE + 1);
        final Row values = new Row(MOST_TAPE + 1);

        /** Takes a text apart; the last token is FINISH, and what is no token is a NOTHING at its place. */
        void takeApart(Row text) {
            kinds.size = 0;
            places.size = 0;
            values.size = 0;
            int place = 0;
            for (int i = 0; i < MOST_TAPE && place < text.size; i++) {
                int sign = text.items[place];
                if (isLetter(sign)) {
                    place = takeWord(text, place);
                } else if (isDigit(sign)) {
                    place = takeNumber(text, place);
                } else {
                    if (!isBlank(sign)) {
                        keep(kindOfSign(sign), place, 0);
                    }
                    place++;
                }
            }
            keep(FINISH, text.size, 0);
        }

        private void keep(int kind, int place, int value) {
            kinds.add(kind);
            places.add(place);
            values.add(value);
        }

        private int takeWord(Row text, int from) {
            int to = from;
            while (to < text.size && isLetter(text.items[to])) {
                to++;
            }
            keep(kindOfWord(text, from, to), from, 0);
            return to;
        }

        private int takeNumber(Row text, int from) {
            int to = from;
            int value = 0;
            while (to < text.size && isDigit(text.items[to])) {
                // More than four digits are no number, so it does not matter what their value becomes.
                value = value * 10 + text.items[to] - '0';
                to++;
            }
            keep(to - from <= 4 ? NUMBER : NOTHING, from, value);
            return to;
        }

        private static int kindOfSign(int sign) {
            switch (sign) {
                case ';': return SEMICOLON;
                case '+': return PLUS;
                case '-': return MINUS;
                case '<': return LESS;
                case '=': return EQUAL;
                case '>': return GREATER;
                default: return NOTHING;
            }
        }

        private static int kindOfWord(Row text, int from, int to) {
            int kind = ON;
            int place = from;
            boolean same = true;
            for (int i = 0; i < KEYWORDS.length(); i++) {
                char sign = KEYWORDS.charAt(i);
                if (sign != ' ') {
                    same = same && place < to && text.at(place) == sign;
                    place++;
                } else if (same && place == to) {
                    return kind;
                } else {
                    kind++;
                    place = from;
                    same = true;
                }
            }
            return NOTHING;
        }

        private static boolean isLetter(int sign) {
            return within(sign, 'a', 'z') || within(sign, 'A', 'Z');
        }

        private static boolean isDigit(int sign) {
            return within(sign, '0', '9');
        }

        private static boolean isBlank(int sign) {
            return sign == 32 || sign == 10;
        }
    }

    /** Reads a text into a program from left to right, so that the fault it meets first is the first by its place. */
    private static final class Reader {
        // A byte of a text gives less than two numbers of a program: an if of five bytes, if1=1, gives nine.
        static final int MOST_PROGRAM = 2 * MOST_TAPE;
        static final int CANT_STAND = 1;
        static final int WRONG_NUMBER = 2;
        static final int TOO_DEEP = 3;
        static final int DEEPEST = 4;

        final Row program = new Row(MOST_PROGRAM);
        int fault = 0;
        int faultPlace = NONE;
        private final Tokens tokens = new Tokens();
        private int current = 0;
        private int token = Tokens.NOTHING;
        // Of each again or if that is open, the outermost first: which of both, and where in the program it begins.
        private final Row openWords = new Row(DEEPEST);
        private final Row openStarts = new Row(DEEPEST);

        boolean read(Row text) {
            tokens.takeApart(text);
            program.size = 0;
            openWords.size = 0;
            openStarts.size = 0;
            fault = 0;
            faultPlace = NONE;
            current = 0;
            token = tokens.kinds.at(0);
            boolean finished = false;
            for (int i = 0; i <= MOST_TAPE && fault == 0 && !finished; i++) {
                if (within(token, Tokens.ON, Tokens.IF)) {
                    readStep();
                } else if (token == Tokens.END && innermost() == Tokens.AGAIN) {
                    closeAgain();
                } else if (token == Tokens.FINISH && innermost() == NONE) {
                    finished = true;
                } else {
                    fail(CANT_STAND);
                }
            }
            return finished;
        }

        // Behind a fault every token is NOTHING, so that no rule goes on; only the first fault is kept.
        private void fail(int kind) {
            if (fault == 0) {
                fault = kind;
                faultPlace = tokens.places.at(current);
            }
            token = Tokens.NOTHING;
        }

        private void advance() {
            if (fault == 0) {
                current++;
                token = tokens.kinds.at(current);
            }
        }

        private void expect(int wanted) {
            if (token == wanted) {
                advance();
            } else {
                fail(CANT_STAND);
            }
        }

        private int innermost() {
            return openWords.at(openWords.size - 1);
        }

        private void readStep() {
            int word = token;
            boolean opens = word == Tokens.AGAIN || word == Tokens.IF;
            if (opens && openWords.size >= DEEPEST) {
                fail(TOO_DEEP);
                return;
            }
            program.add(word);
            advance();
            switch (word) {
                case Tokens.TO:
                    readNumber(0, 9999);
                    readNumber(0, 9999);
                    break;
                case Tokens.GO:
                    readSide();
                    readNumber(0, 9999);
                    break;
                case Tokens.HOLD:
                    readNumber(0, 9999);
                    break;
                case Tokens.SPEED:
                    readNumber(LEAST_SPEED, MOST_SPEED);
                    break;
                case Tokens.AGAIN:
                    openAgain();
                    break;
                case Tokens.IF:
                    openIf();
                    break;
                default:
                    break;
            }
            if (!opens) {
                closeStep();
            }
        }

        // Where a step ends, all that it is the step of end too.
        private void closeStep() {
            for (int i = 0; i < DEEPEST && innermost() == Tokens.IF; i++) {
                program.put(openStarts.at(openStarts.size - 1), program.size);
                dropInnermost();
            }
            expect(Tokens.SEMICOLON);
        }

        private void dropInnermost() {
            openWords.size = Math.max(0, openWords.size - 1);
            openStarts.size = Math.max(0, openStarts.size - 1);
        }

        // In the program: AGAIN, how often, its depth, the steps; then END, the depth, where the steps begin.
        private void openAgain() {
            readNumber(1, 99);
            openWords.add(Tokens.AGAIN);
            program.add(openWords.size);
            expect(Tokens.BEGIN);
            openStarts.add(program.size);
        }

        private void closeAgain() {
            advance();
            program.add(Tokens.END);
            program.add(openWords.size);
            program.add(openStarts.at(openStarts.size - 1));
            dropInnermost();
            closeStep();
        }

        // In the program: IF, where its step ends, the relation, how many terms stand on its left and on its right,
        // the terms, the step.
        private void openIf() {
            int start = program.size;
            openWords.add(Tokens.IF);
            openStarts.add(start);
            for (int i = 0; i < 4; i++) {
                program.add(0);
            }
            program.put(start + 2, readSum());
            program.put(start + 1, token);
            if (within(token, Tokens.LESS, Tokens.GREATER)) {
                advance();
            } else {
                fail(CANT_STAND);
            }
            program.put(start + 3, readSum());
        }

        /** Reads a sum and tells how many terms it has. */
        private int readSum() {
            int terms = 1;
            readTerm(false);
            for (int i = 0; i < MOST_TAPE && (token == Tokens.PLUS || token == Tokens.MINUS); i++) {
                boolean minus = token == Tokens.MINUS;
                advance();
                readTerm(minus);
                terms++;
            }
            return terms;
        }

        // In the program: the term's token, below 0 if it is taken away, then its value if it is a number.
        private void readTerm(boolean minus) {
            if (token == Tokens.NUMBER || within(token, Tokens.HOT, Tokens.CUT)) {
                program.add(minus ? -token : token);
                program.add(tokens.values.at(current));
                advance();
            } else {
                fail(CANT_STAND);
            }
        }

        private void readNumber(int least, int most) {
            int value = tokens.values.at(current);
            if (token != Tokens.NUMBER) {
                fail(CANT_STAND);
            } else if (!within(value, least, most)) {
                fail(WRONG_NUMBER);
            } else {
                program.add(value);
                advance();
            }
        }

        private void readSide() {
            if (within(token, Tokens.EAST, Tokens.SOUTH)) {
                program.add(token - Tokens.EAST);
                advance();
            } else {
                fail(CANT_STAND);
            }
        }
    }

    /** Where the head stands and how it goes. */
    private static final class Head {
        int x = 0;
        int y = 0;
        boolean on = false;
        int speed = 5;
        int hits = 0;

        void renew() {
            x = 0;
            y = 0;
            on = false;
            speed = 5;
            hits = 0;
        }

        void copyFrom(Head other) {
            x = other.x;
            y = other.y;
            on = other.on;
            speed = other.speed;
            hits = other.hits;
        }
    }

    /** One part of a plate at a time, gathered from one of its cells. */
    private static final class Part {
        final int[] cells = new int[Plate.MOST_CELLS];
        final int[] seen = new int[Plate.MOST_CELLS];
        int size = 0;
        int sumX = 0;
        boolean held = false;

        void forgetSeen() {
            Arrays.fill(seen, 0);
        }

        /** Gathers the part of a cell; none if the cell is not there, or was gathered since forgetSeen. */
        void gather(Plate plate, int place) {
            size = 0;
            sumX = 0;
            held = false;
            int wide = plate.wide;
            if (wide < 1) {
                return;
            }
            take(plate, place);
            for (int i = 0; i < size && i < Plate.MOST_CELLS; i++) {
                int here = cells[i];
                int x = here % wide;
                sumX += x;
                held = held || plate.isBorder(x, here / wide);
                // What lies beyond the upper or lower border is no cell, and take refuses it.
                take(plate, here - wide);
                take(plate, here + wide);
                if (x > 0) {
                    take(plate, here - 1);
                }
                if (x < wide - 1) {
                    take(plate, here + 1);
                }
            }
        }

        private void take(Plate plate, int place) {
            boolean isCell = place >= 0 && place < plate.area;
            if (isCell && plate.state[place] == Plate.THERE && seen[place] == 0 && size < Plate.MOST_CELLS) {
                seen[place] = 1;
                cells[size] = place;
                size++;
            }
        }
    }

    /** A plate with its head. Without cells it is none. Cell x, y has the place y times wide plus x. */
    private static final class Plate {
        static final int MOST_WIDE = 16;
        static final int MOST_HIGH = 12;
        static final int MOST_CELLS = MOST_WIDE * MOST_HIGH;
        static final int MOST_HEAT = 99999999;
        static final int THERE = 0;
        static final int CUT = 1;
        static final int FALLEN = 2;
        static final int TIPPED = 3;

        int wide = 0;
        int high = 0;
        int area = 0;
        int stuff = 0;
        int thick = 1;
        int ticks = 0;
        int spentRuns = 0;
        long given = 0;
        long lostHeat = 0;
        long carried = 0;
        final Head head = new Head();
        // A cell that is not there has heat 0.
        final int[] heat = new int[MOST_CELLS];
        final int[] state = new int[MOST_CELLS];
        final int[] burnt = new int[MOST_CELLS];
        final int[] tipped = new int[MOST_CELLS];
        // What flows into each cell in a tick; all 0 between two ticks.
        private final int[] inflow = new int[MOST_CELLS];
        private final int[] costs = new int[MOST_CELLS];
        private final Part part = new Part();

        void renew(int newWide, int newHigh, int newStuff, int newThick) {
            wide = newWide;
            high = newHigh;
            area = Math.min(newWide * newHigh, MOST_CELLS);
            stuff = newStuff;
            thick = newThick;
            ticks = 0;
            spentRuns = 0;
            given = 0;
            lostHeat = 0;
            carried = 0;
            head.renew();
            Arrays.fill(heat, 0);
            Arrays.fill(state, THERE);
            Arrays.fill(burnt, 0);
            Arrays.fill(tipped, 0);
        }

        void copyFrom(Plate other) {
            wide = other.wide;
            high = other.high;
            area = other.area;
            stuff = other.stuff;
            thick = other.thick;
            ticks = other.ticks;
            spentRuns = other.spentRuns;
            given = other.given;
            lostHeat = other.lostHeat;
            carried = other.carried;
            head.copyFrom(other.head);
            System.arraycopy(other.heat, 0, heat, 0, MOST_CELLS);
            System.arraycopy(other.state, 0, state, 0, MOST_CELLS);
            System.arraycopy(other.burnt, 0, burnt, 0, MOST_CELLS);
            System.arraycopy(other.tipped, 0, tipped, 0, MOST_CELLS);
        }

        boolean isLaid() {
            return area > 0;
        }

        boolean has(int x, int y) {
            return x >= 0 && x < wide && y >= 0 && y < high;
        }

        boolean isBorder(int x, int y) {
            return x == 0 || y == 0 || x == wide - 1 || y == high - 1;
        }

        int index(int x, int y) {
            return y * wide + x;
        }

        int headPlace() {
            return head.y * wide + head.x;
        }

        boolean isThere(int place) {
            return place >= 0 && place < area && state[place] == THERE;
        }

        /** Moves the head, which may be a hit; false, and it stays, if there is no such cell. */
        boolean moveHead(int x, int y) {
            if (!has(x, y)) {
                return false;
            }
            head.x = x;
            head.y = y;
            int place = index(x, y);
            if (isThere(place) && tipped[place] != 0) {
                head.hits++;
            }
            return true;
        }

        void tick(Works works) {
            if (!within(stuff, 0, STUFF_COUNT - 1)) {
                return;
            }
            if (head.on) {
                giveHeat(works.strength);
            }
            leadHeat(works.leads[stuff]);
            loseHeat(works.losses[stuff]);
            boolean someCut = works.gas && cutMolten(works.melts[stuff] * thick);
            burnHot(works.burns[stuff]);
            if (someCut) {
                loosenParts(works);
            }
            ticks++;
        }

        private void giveHeat(int strength) {
            int place = headPlace();
            if (!isThere(place)) {
                return;
            }
            int sum = heat[place] + strength;
            int above = Math.max(0, sum - MOST_HEAT);
            heat[place] = sum - above;
            given += strength;
            lostHeat += above;
        }

        // All flows come from the heat as it was before any of them, so they are summed up aside first.
        private void leadHeat(int lead) {
            for (int y = 0; y < high; y++) {
                int rowEnd = Math.min((y + 1) * wide, area);
                for (int place = y * wide; place < rowEnd; place++) {
                    if (place + 1 < rowEnd && heat[place] != heat[place + 1]) {
                        leadBetween(place, place + 1, lead);
                    }
                    if (place + wide < area && heat[place] != heat[place + wide]) {
                        leadBetween(place, place + wide, lead);
                    }
                }
            }
            for (int place = 0; place < area; place++) {
                heat[place] += inflow[place];
                inflow[place] = 0;
            }
        }

        private void leadBetween(int one, int other, int lead) {
            if (state[one] == THERE && state[other] == THERE) {
                // Java's quotient goes towards 0, as the flow of heat does; the product stays below 2 to the 31.
                int flow = (heat[one] - heat[other]) * lead / 100;
                inflow[one] -= flow;
                inflow[other] += flow;
            }
        }

        private void loseHeat(int loss) {
            for (int place = 0; place < area; place++) {
                int away = heat[place] * loss / 100;
                heat[place] -= away;
                lostHeat += away;
            }
        }

        // What is enough is never 0, so only a cell that is there can have it.
        private boolean cutMolten(int enough) {
            boolean some = false;
            for (int place = 0; place < area; place++) {
                if (heat[place] >= enough) {
                    takeAway(place, CUT);
                    some = true;
                }
            }
            return some;
        }

        private void takeAway(int place, int newState) {
            carried += heat[place];
            heat[place] = 0;
            state[place] = newState;
        }

        private void burnHot(int enough) {
            for (int place = 0; place < area; place++) {
                if (heat[place] >= enough) {
                    burnt[place] = 1;
                }
            }
        }

        private void loosenParts(Works works) {
            part.forgetSeen();
            for (int place = 0; place < area; place++) {
                part.gather(this, place);
                if (!part.held) {
                    settlePart(works);
                }
            }
        }

        private void settlePart(Works works) {
            boolean onSlat = false;
            boolean propLeft = false;
            boolean propRight = false;
            for (int i = 0; i < part.size && wide > 0; i++) {
                int x = part.cells[i] % wide;
                if (works.hasSlatAt(x)) {
                    onSlat = true;
                    propLeft = propLeft || x * part.size <= part.sumX;
                    propRight = propRight || x * part.size >= part.sumX;
                }
            }
            for (int i = 0; i < part.size; i++) {
                if (!onSlat) {
                    takeAway(part.cells[i], FALLEN);
                } else if (!propLeft || !propRight) {
                    tipped[part.cells[i]] = 1;
                }
            }
        }

        int condition(int place) {
            return state[place] == THERE && tipped[place] != 0 ? TIPPED : state[place];
        }

        int countState(int wanted) {
            int count = 0;
            for (int place = 0; place < area; place++) {
                count += state[place] == wanted ? 1 : 0;
            }
            return count;
        }

        // A cell is tipped for ever, so one that is not there any more still counts.
        int countTipped() {
            int count = 0;
            for (int place = 0; place < area; place++) {
                count += tipped[place];
            }
            return count;
        }

        int countBurntThere() {
            int count = 0;
            for (int place = 0; place < area; place++) {
                count += state[place] == THERE ? burnt[place] : 0;
            }
            return count;
        }

        int countParts(boolean onlyLoose) {
            int count = 0;
            part.forgetSeen();
            for (int place = 0; place < area; place++) {
                part.gather(this, place);
                if (part.size > 0 && !(onlyLoose && part.held)) {
                    count++;
                }
            }
            return count;
        }

        /** The part of a cell, of no cells if it is not there; it holds until the next one is gathered. */
        Part partAt(int place) {
            part.forgetSeen();
            part.gather(this, place);
            return part;
        }

        /**
         * The bridge of a cell that is there. Every part that is held goes on to the border at no cost, so the cheapest
         * way to a cell of the border is the bridge.
         */
        int bridge(int place) {
            partAt(place);
            Arrays.fill(costs, MOST_CELLS);
            for (int i = 0; i < part.size; i++) {
                costs[part.cells[i]] = 0;
            }
            boolean better = true;
            for (int round = 0; round < MOST_CELLS && better; round++) {
                better = spreadCosts();
            }
            int least = MOST_CELLS;
            for (int y = 0; y < high; y++) {
                for (int x = 0; x < wide; x++) {
                    if (isBorder(x, y)) {
                        least = Math.min(least, costAt(x, y));
                    }
                }
            }
            return least;
        }

        private boolean spreadCosts() {
            boolean better = false;
            for (int y = 0; y < high; y++) {
                for (int x = 0; x < wide; x++) {
                    int place = index(x, y);
                    int toll = isThere(place) ? 0 : 1;
                    for (int side = 0; side < 4; side++) {
                        int cost = costAt(x + stepX(side), y + stepY(side)) + toll;
                        if (cost < costs[place]) {
                            costs[place] = cost;
                            better = true;
                        }
                    }
                }
            }
            return better;
        }

        private int costAt(int x, int y) {
            return has(x, y) ? costs[index(x, y)] : MOST_CELLS;
        }

        long heatInAll() {
            long sum = 0;
            for (int place = 0; place < area; place++) {
                sum += heat[place];
            }
            return sum;
        }
    }

    /** Runs a program on a plate. */
    private static final class Runner {
        static final int MOST_COST = 1000;
        // Only the next turn of an again costs nothing, and each again that is paid for has at most 99 turns.
        static final int MOST_MOVES = 200 * MOST_COST;

        private final int[] turnsLeft = new int[Reader.DEEPEST + 1];
        private int costLeft = 0;
        private int ticksAhead = 0;

        /** Runs it from its first step on, and tells how many ticks went by. */
        int perform(Row program, Plate plate, Works works) {
            costLeft = MOST_COST;
            ticksAhead = plate.ticks;
            int at = 0;
            for (int move = 0; move < MOST_MOVES && at < program.size && costLeft > 0; move++) {
                int word = program.at(at);
                int first = program.at(at + 1);
                int second = program.at(at + 2);
                costLeft -= word == Tokens.END ? 0 : 1;
                switch (word) {
                    case Tokens.TO:
                        plate.moveHead(first, second);
                        at += 3;
                        break;
                    case Tokens.GO:
                        travel(plate, works, first, second);
                        at += 3;
                        break;
                    case Tokens.HOLD:
                        stay(plate, works, first);
                        at += 2;
                        break;
                    case Tokens.SPEED:
                        plate.head.speed = first;
                        at += 2;
                        break;
                    case Tokens.AGAIN:
                        setTurns(second, first);
                        at += 3;
                        break;
                    case Tokens.END:
                        setTurns(first, turns(first) - 1);
                        at = turns(first) > 0 ? second : at + 3;
                        break;
                    case Tokens.IF:
                        at = isSo(program, at, plate) ? stepOfIf(program, at) : first;
                        break;
                    default:
                        plate.head.on = word == Tokens.ON;
                        at++;
                        break;
                }
            }
            plate.spentRuns += costLeft == 0 ? 1 : 0;
            return plate.ticks - ticksAhead;
        }

        private int turns(int depth) {
            return within(depth, 0, Reader.DEEPEST) ? turnsLeft[depth] : 0;
        }

        private void setTurns(int depth, int turns) {
            if (within(depth, 0, Reader.DEEPEST)) {
                turnsLeft[depth] = turns;
            }
        }

        private void travel(Plate plate, Works works, int side, int cells) {
            boolean onPlate = true;
            for (int i = 0; i < cells && costLeft > 0 && onPlate; i++) {
                onPlate = plate.moveHead(plate.head.x + stepX(side), plate.head.y + stepY(side));
                for (int t = 0; t < plate.head.speed && costLeft > 0 && onPlate; t++) {
                    costLeft--;
                    plate.tick(works);
                }
            }
        }

        private void stay(Plate plate, Works works, int count) {
            for (int i = 0; i < count && costLeft > 0; i++) {
                costLeft--;
                plate.tick(works);
            }
        }

        private static int stepOfIf(Row program, int at) {
            return at + 5 + 2 * (program.at(at + 3) + program.at(at + 4));
        }

        private boolean isSo(Row program, int at, Plate plate) {
            int leftTerms = program.at(at + 3);
            long left = sum(program, at + 5, leftTerms, plate);
            long right = sum(program, at + 5 + 2 * leftTerms, program.at(at + 4), plate);
            switch (program.at(at + 2)) {
                case Tokens.LESS: return left < right;
                case Tokens.EQUAL: return left == right;
                default: return left > right;
            }
        }

        private long sum(Row program, int at, int terms, Plate plate) {
            long sum = 0;
            for (int i = 0; i < terms; i++) {
                int term = program.at(at + 2 * i);
                long value = valueOf(Math.abs(term), program.at(at + 2 * i + 1), plate);
                sum += term < 0 ? -value : value;
            }
            return sum;
        }

        private int valueOf(int term, int number, Plate plate) {
            boolean isThere = plate.isThere(plate.headPlace());
            switch (term) {
                case Tokens.HOT: return isThere ? plate.heat[plate.headPlace()] : 0;
                case Tokens.X: return plate.head.x;
                case Tokens.Y: return plate.head.y;
                case Tokens.TICK: return plate.ticks - ticksAhead;
                case Tokens.CUT: return isThere ? 0 : 1;
                default: return number;
            }
        }
    }

    /** Finds out on plates like the one at hand what would be. */
    private static final class Trials {
        static final int MOST_WAYS = 3;
        private static final int[] ORDERS = {0, 1, 2, 0, 2, 1, 1, 0, 2, 1, 2, 0, 2, 0, 1, 2, 1, 0};

        int bestBurnt = 0;
        int bestTicks = 0;
        int bestOrder = NONE;
        private final Runner runner = new Runner();
        private final Row sweep = new Row(4);
        private final Plate like = new Plate();
        private final int[] chosen = new int[MOST_WAYS];

        /** Runs the ways of a set in every order and keeps the best; of several the first is met first. */
        void seekOrder(Works works, Plate plate, int set) {
            int count = choose(set);
            bestOrder = NONE;
            for (int row = 0; row + MOST_WAYS <= ORDERS.length; row += MOST_WAYS) {
                if (!ordersJust(count, row)) {
                    continue;
                }
                like.copyFrom(plate);
                int order = 9;
                for (int i = 0; i < count; i++) {
                    int k = chosen[ORDERS[row + i]];
                    Row program = works.programOf(k);
                    if (program != null) {
                        runner.perform(program, like, works);
                    }
                    order = order * 10 + k;
                }
                keepIfBetter(like.countBurntThere(), like.ticks - plate.ticks, order);
            }
        }

        private int choose(int set) {
            int count = 0;
            for (int k = 0; k < Works.WAY_COUNT && count < MOST_WAYS; k++) {
                if ((set >> k & 1) == 1) {
                    chosen[count] = k;
                    count++;
                }
            }
            return count;
        }

        // The orders of fewer than three are those that leave the others where they stand.
        private static boolean ordersJust(int count, int row) {
            for (int i = count; i < MOST_WAYS; i++) {
                if (ORDERS[row + i] != i) {
                    return false;
                }
            }
            return true;
        }

        private void keepIfBetter(int burnt, int ticks, int order) {
            boolean better = burnt < bestBurnt || burnt == bestBurnt && ticks < bestTicks;
            if (bestOrder == NONE || better) {
                bestBurnt = burnt;
                bestTicks = ticks;
                bestOrder = order;
            }
        }

        int leastSpeed(Works works, Plate plate, int side, int cells) {
            if (!plate.has(plate.head.x + stepX(side) * cells, plate.head.y + stepY(side) * cells)) {
                return NONE;
            }
            sweep.size = 0;
            sweep.add(Tokens.ON);
            sweep.add(Tokens.GO);
            sweep.add(side);
            sweep.add(cells);
            for (int tried = LEAST_SPEED; tried <= MOST_SPEED; tried++) {
                like.copyFrom(plate);
                like.head.speed = tried;
                runner.perform(sweep, like, works);
                if (noneIsThereBehind(side, cells)) {
                    return tried;
                }
            }
            return NONE;
        }

        private boolean noneIsThereBehind(int side, int cells) {
            for (int i = 0; i < cells; i++) {
                int place = like.index(like.head.x - stepX(side) * i, like.head.y - stepY(side) * i);
                if (like.isThere(place)) {
                    return false;
                }
            }
            return true;
        }
    }

    /** The kinds of oblongs, and the greatest worth of every oblong that they fill. */
    private static final class Filling {
        static final int MOST_KINDS = 6;
        static final int MOST_SIDE = 40;
        static final int STRIDE = MOST_SIDE + 1;

        private final int[] wides = new int[MOST_KINDS];
        private final int[] highs = new int[MOST_KINDS];
        private final int[] worths = new int[MOST_KINDS];
        private final int[] best = new int[STRIDE * STRIDE];
        private int kinds = 0;

        int addKind(int wide, int high, int worth) {
            if (!within(wide, 1, MOST_SIDE) || !within(high, 1, MOST_SIDE) || !within(worth, 0, 999)
                    || kinds >= MOST_KINDS) {
                return NONE;
            }
            wides[kinds] = wide;
            highs[kinds] = high;
            worths[kinds] = worth;
            kinds++;
            fillAll();
            return kinds - 1;
        }

        int greatestWorth(int wide, int high) {
            if (!within(wide, 0, MOST_SIDE) || !within(high, 0, MOST_SIDE)) {
                return NONE;
            }
            return best[wide * STRIDE + high];
        }

        // Both pieces of a cut come before the oblong that is cut, so one pass over all oblongs is enough.
        private void fillAll() {
            for (int wide = 1; wide <= MOST_SIDE; wide++) {
                for (int high = 1; high <= MOST_SIDE; high++) {
                    best[wide * STRIDE + high] = Math.max(bestKind(wide, high), bestCut(wide, high));
                }
            }
        }

        private int bestKind(int wide, int high) {
            int most = 0;
            for (int k = 0; k < kinds; k++) {
                boolean upright = wides[k] == wide && highs[k] == high;
                boolean turned = wides[k] == high && highs[k] == wide;
                if (upright || turned) {
                    most = Math.max(most, worths[k]);
                }
            }
            return most;
        }

        private int bestCut(int wide, int high) {
            int most = 0;
            for (int cut = 1; cut <= wide / 2; cut++) {
                most = Math.max(most, best[cut * STRIDE + high] + best[(wide - cut) * STRIDE + high]);
            }
            for (int cut = 1; cut <= high / 2; cut++) {
                most = Math.max(most, best[wide * STRIDE + cut] + best[wide * STRIDE + high - cut]);
            }
            return most;
        }
    }

    /** The test cuts as they were told. */
    private static final class TestBook {
        static final int MOST = 200;

        private final int[] stuffs = new int[MOST];
        private final int[] heats = new int[MOST];
        private final int[] days = new int[MOST];
        private final boolean[] cuts = new boolean[MOST];
        private int count = 0;
        private int latestDay = 0;

        boolean tell(int stuff, int heat, boolean cut, int day) {
            if (!within(stuff, 0, STUFF_COUNT - 1) || !within(heat, 1, 9999) || !within(day, latestDay, LAST_DAY)
                    || count >= MOST) {
                return false;
            }
            stuffs[count] = stuff;
            heats[count] = heat;
            cuts[count] = cut;
            days[count] = day;
            count++;
            latestDay = day;
            return true;
        }

        int leastMelt(int stuff, int day) {
            int least = 1;
            for (int i = 0; i < count; i++) {
                if (stuffs[i] == stuff && days[i] <= day && !cuts[i]) {
                    least = Math.max(least, heats[i] + 1);
                }
            }
            return least;
        }

        int greatestMelt(int stuff, int day) {
            int greatest = 999;
            for (int i = 0; i < count; i++) {
                if (stuffs[i] == stuff && days[i] <= day && cuts[i]) {
                    greatest = Math.min(greatest, heats[i]);
                }
            }
            return greatest;
        }
    }
}
