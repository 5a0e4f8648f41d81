import java.util.NoSuchElementException;

/** Two slotted buses past a row of stations, as ../shared/DOC.md tells them. */
public final class SlotBuses {
    public static final int NONE = -1;
    public static final int HIDDEN = -1000000;

    private static final int BUSES = 2;
    private static final int MOST_STATIONS = 8;
    private static final int MOST_HOPS = 7;
    private static final int MOST_LEVELS = 3;
    private static final int MOST_DELAY = 3;
    private static final int MOST_HELD = 30;
    private static final int MOST_MANY = 9;
    private static final int MOST_TICKS = 60;
    private static final int MOST_TIME = 9999;
    private static final int MOST_EVERY = 9;
    private static final int LEAST_EVERY = 2;
    private static final int FAR = 200;
    private static final int MOST_YEARS = 40;
    private static final int MOST_FAIR = 99;
    private static final int NOBODY = -1;

    // The sorts of ACTS: the LOG, the STEPS of SCRIPTS and refusals count them alike.
    private static final int COME = 0;
    private static final int TICKS = 1;
    private static final int CUT = 2;
    private static final int HEALED = 3;
    private static final int ERASER = 4;
    private static final int WITHDRAWN = 5;
    private static final int RESERVED = 6;

    // Why an ACT is refused, as STATUS counts it.
    private static final int FINE = -1;
    private static final int NO_SUCH = 0;
    private static final int OUT_OF_BOUNDS = 1;
    private static final int IS_SO = 2;
    private static final int TOO_MUCH = 3;
    private static final int REFUSALS = 4;

    private static final int ROW_SORT = 0;
    private static final int SCRIPT_SORT = 1;
    private static final int NO_SUCH_SORT = -2;

    private final Tape tape = new Tape();
    private final Scripts scripts = new Scripts();
    private final Row now = new Row();
    private final Past past = new Past();
    private final Outlook outlook = new Outlook();
    private final Draws draws = new Draws();
    private final int[] refused = new int[REFUSALS];
    private Row kept = null;
    private boolean hasImage = false;
    private int refusal = FINE;

    public SlotBuses() {
    }

    public int feed(int a, int b, int c, int d, int e) {
        int more = Tape.signsIn(a) + Tape.signsIn(b) + Tape.signsIn(c) + Tape.signsIn(d) + Tape.signsIn(e);
        if (!tape.hasRoomFor(more)) {
            return NONE;
        }
        tape.append(a);
        tape.append(b);
        tape.append(c);
        tape.append(d);
        tape.append(e);
        return tape.size;
    }

    public boolean end(int n) {
        return tape.shorten(n);
    }

    public int fault(int sort) {
        if (sort == ROW_SORT) {
            return tape.readRow();
        }
        return sort == SCRIPT_SORT ? tape.readScript() : NO_SUCH_SORT;
    }

    public int text(int sort) {
        if (fault(sort) != NONE) {
            return NONE;
        }
        if (sort == SCRIPT_SORT) {
            return takeScript();
        }
        now.begin(tape.rules);
        for (int q = 0; q < tape.clauses; q++) {
            now.bringIfCan(tape.waits, q * Tape.WAIT_ITEMS);
        }
        past.forget();
        hasImage = false;
        tape.shorten(0);
        return now.stations;
    }

    private int takeScript() {
        int number = scripts.take(tape.steps, tape.clauses);
        if (number != NONE) {
            tape.shorten(0);
        }
        return number;
    }

    public int rule(int what) {
        if (now.stations == 0) {
            return NONE;
        }
        switch (what) {
            case 0: return now.stations;
            case 1: return now.delay;
            case 2: return now.balance;
            case 3: return now.levels;
            case 4: return now.erasers;
            case 5: return now.cuts;
            default: return NONE;
        }
    }

    public int line(int station, int bus, int level, int what) throws NoSuchElementException {
        if (!now.hasLine(station, bus, level) || what < 0 || what > 5) {
            throw new NoSuchElementException();
        }
        return now.lines.told(Lines.indexOf(station, bus, level), what);
    }

    public int waiting(int station, int bus, int level, int i, int what) {
        if (!now.hasLine(station, bus, level)) {
            return NONE;
        }
        return now.lines.waitingOne(Lines.indexOf(station, bus, level), i, what);
    }

    public int station(int station, int what) {
        if (!now.hasStation(station)) {
            return NONE;
        }
        return what == 0 ? now.lines.held[station] : now.tally.ofStation(station, what);
    }

    public int hop(int hop, int bus, int what) {
        return now.hasHop(hop) && isBus(bus) ? now.hops.told(hop, bus, what) : NONE;
    }

    public int come(int from, int to, int level, int many) {
        return counted(act(COME, from, to, level, many));
    }

    public int tick(int n) {
        return counted(act(TICKS, n, 0, 0, 0));
    }

    public int cut(int hop) {
        return counted(act(CUT, hop, 0, 0, 0));
    }

    public int heal(int hop) {
        return counted(act(HEALED, hop, 0, 0, 0));
    }

    public int eraser(int station) {
        return counted(act(ERASER, station, 0, 0, 0));
    }

    public int withdraw(int from, int to) {
        return counted(act(WITHDRAWN, from, to, 0, 0));
    }

    public int reserve(int bus, int station, int every) {
        return counted(act(RESERVED, bus, station, every, 0));
    }

    /** An ACT that can be undone, or nothing but the reason why not. */
    private int act(int kind, int a, int b, int c, int d) {
        refusal = now.refusalOf(kind, a, b, c, d);
        if (refusal != FINE) {
            return NONE;
        }
        past.keep(now);
        return now.carryOut(kind, a, b, c, d);
    }

    private int counted(int answer) {
        if (refusal >= 0 && refusal < REFUSALS) {
            refused[refusal]++;
        }
        return answer;
    }

    public int reserved(int bus, int what) {
        return isBus(bus) ? now.reservation(bus, what) : NONE;
    }

    public int years(int n, long seed) {
        if (now.stations == 0 || n < 1 || n > MOST_YEARS) {
            return NONE;
        }
        draws.start(seed);
        for (int i = 0; i < n; i++) {
            draws.choose(now);
            act(draws.kind, draws.a, draws.b, draws.c, draws.d);
        }
        return now.time;
    }

    public int status(int what) {
        return what >= 0 && what < REFUSALS ? refused[what] : NONE;
    }

    public int undo() {
        return past.bringBack(now);
    }

    public int log(int i, int what) {
        return now.acts.has(i, what, Row.LOG_TOLD) ? now.acts.told(i, what) : HIDDEN;
    }

    public int arrival(int i, int what) {
        return now.arrivals.has(i, what, Row.ARRIVAL_TOLD) ? now.arrivals.told(i, what) : NONE;
    }

    public int ahead(int n, int what) {
        if (!now.hasTimeFor(n, 0) || what < 0 || what > 2) {
            return NONE;
        }
        return outlook.forecast(now, n, what);
    }

    public int when(int number) {
        return number < 1 || now.stations == 0 ? NONE : outlook.arrivalOf(now, number);
    }

    public int next(int i) {
        return i < 0 || now.stations == 0 ? NONE : outlook.arrivingAs(now, i);
    }

    public int drained() {
        return now.stations == 0 ? NONE : outlook.emptyBehind(now);
    }

    public int share(int station, int n) {
        if (!now.hasStation(station) || !now.hasTimeFor(n, 1)) {
            return NONE;
        }
        return outlook.slotsOf(now, station, n);
    }

    public int fair(int m, int what) {
        if (now.stations == 0 || m < 1 || m > MOST_FAIR) {
            return NONE;
        }
        return partOf(now.balance, 1 + now.balance * m, what);
    }

    public boolean firstCome() {
        return now.stations != 0 && outlook.isInOrder(now);
    }

    public int worst(int what) {
        return what == 0 || what == 1 ? now.worstCut(what) : NONE;
    }

    public int gain(int n, int what) {
        if (!now.hasTimeFor(n, 1) || what < 0 || what > 1) {
            return NONE;
        }
        return outlook.bestEraser(now, n, what);
    }

    public int spread(int what) {
        return now.arrivals.size == 0 ? NONE : outlook.spreadOf(now.arrivals, what);
    }

    public int mean(int station, int what) {
        if (!now.hasStation(station) || now.tally.deliveredFrom[station] == 0) {
            return NONE;
        }
        return partOf(now.tally.waitsFrom[station], now.tally.deliveredFrom[station], what);
    }

    public int hurt(int bus, int station, int every, int n) {
        if (now.refusalOf(RESERVED, bus, station, every, 0) != FINE || !now.hasTimeFor(n, 1)) {
            return HIDDEN;
        }
        return outlook.lessBy(now, bus, station, every, n);
    }

    public int step(int script, int i, int what) {
        return scripts.has(script, i) && what >= 0 && what < Tape.STEP_ITEMS ? scripts.told(script, i, what) : HIDDEN;
    }

    public int run(int script, int what) {
        if (now.stations == 0 || !scripts.has(script, 0) || what < 0 || what > 1) {
            return HIDDEN;
        }
        return outlook.tryOut(now, scripts, script, what);
    }

    public int perform(int script) {
        if (now.stations == 0 || !scripts.has(script, 0)) {
            return NONE;
        }
        int length = scripts.lengthOf(script);
        for (int i = 0; i < length; i++) {
            act(scripts.told(script, i, 0), scripts.told(script, i, 1), scripts.told(script, i, 2),
                scripts.told(script, i, 3), scripts.told(script, i, 4));
            if (refusal != FINE) {
                return i;
            }
        }
        return length;
    }

    public int all(int what) {
        return now.stations == 0 ? HIDDEN : now.overall(what);
    }

    public int image() {
        if (now.stations == 0) {
            return NONE;
        }
        if (kept == null) {
            kept = new Row();
        }
        kept.copyFrom(now);
        hasImage = true;
        return now.time;
    }

    public int back() {
        if (!hasImage || kept == null) {
            return NONE;
        }
        now.copyFrom(kept);
        past.forget();
        return now.time;
    }

    public int count(int what) {
        switch (what) {
            case 0: return now.stations;
            case 1: return scripts.size;
            case 2: return tape.size;
            case 3: return now.acts.size;
            case 4: return past.size;
            case 5: return now.arrivals.size;
            default: return HIDDEN;
        }
    }

    private static boolean isBus(int bus) {
        return bus == 0 || bus == 1;
    }

    private static boolean hasBit(int bits, int place) {
        return ((bits >> place) & 1) != 0;
    }

    /** The upper (0) or lower (1) number of a fraction without a common divisor. */
    private static int partOf(int upper, int lower, int what) {
        int divisor = commonDivisor(upper, lower);
        if (divisor == 0 || what < 0 || what > 1) {
            return NONE;
        }
        return what == 0 ? upper / divisor : lower / divisor;
    }

    private static int commonDivisor(int a, int b) {
        int greater = a;
        int less = b;
        // Fifty rounds are more than any two ints need.
        for (int i = 0; i < 50 && less != 0; i++) {
            int rest = greater % less;
            greater = less;
            less = rest;
        }
        return greater;
    }

    /** The TAPE, and what was read from it when it was last read through. */
    private static final class Tape {
        private static final int MOST = 240;
        private static final int MOST_WAITS = 8;
        private static final int MOST_STEPS = 16;
        private static final int RULE_ITEMS = 5;
        private static final int WAIT_ITEMS = 4;
        private static final int STEP_ITEMS = 5;
        private static final int MOST_DIGITS = 3;
        private static final String RULE_LETTERS = "ndble";
        private static final String WAIT_LETTERS = "ftlm";
        private static final String STEP_LETTERS = "qtchewr";
        private static final int[] RULE_LEAST = {2, 0, 0, 1, 0};
        private static final int[] RULE_MOST = {8, 3, 9, 3, 255};
        private static final int[] RULE_WITHOUT = {4, 0, 0, 1, 0};
        private static final int[] WAIT_LEAST = {0, 0, 0, 1};
        private static final int[] WAIT_MOST = {7, 7, 2, 9};
        private static final int[] WAIT_WITHOUT = {0, 1, 0, 1};
        private static final int[] STEP_NUMBERS = {4, 1, 1, 1, 1, 2, 3};

        private final int[] signs = new int[MOST];
        private final int[] rules = new int[RULE_ITEMS];
        private final int[] waits = new int[MOST_WAITS * WAIT_ITEMS];
        private final int[] steps = new int[MOST_STEPS * STEP_ITEMS];
        private int size = 0;
        private int at = 0;
        private int number = 0;
        private int clauses = 0;

        static int signsIn(int four) {
            int n = 0;
            for (int shift = 24; shift >= 0; shift -= 8) {
                n += ((four >>> shift) & 255) == 0 ? 0 : 1;
            }
            return n;
        }

        boolean hasRoomFor(int more) {
            return size + more <= MOST;
        }

        void append(int four) {
            for (int shift = 24; shift >= 0; shift -= 8) {
                int sign = (four >>> shift) & 255;
                if (sign != 0 && size < MOST) {
                    signs[size] = sign;
                    size++;
                }
            }
        }

        boolean shorten(int n) {
            if (n < 0 || n > size) {
                return false;
            }
            size = n;
            return true;
        }

        /** The FAULT as a ROW; NONE: none, and rules, waits and clauses (how many q) tell it. */
        int readRow() {
            at = 0;
            clauses = 0;
            boolean ruled = false;
            System.arraycopy(RULE_WITHOUT, 0, rules, 0, RULE_ITEMS);
            for (int i = 0; i <= MOST; i++) {
                int sign = signAhead();
                if (sign == 's' && !ruled) {
                    ruled = true;
                    at++;
                    if (!readItems(RULE_LETTERS, RULE_LEAST, RULE_MOST, rules, 0)) {
                        return at;
                    }
                } else if (sign == 'q' && clauses < MOST_WAITS) {
                    int base = clauses * WAIT_ITEMS;
                    clauses++;
                    at++;
                    System.arraycopy(WAIT_WITHOUT, 0, waits, base, WAIT_ITEMS);
                    if (!readItems(WAIT_LETTERS, WAIT_LEAST, WAIT_MOST, waits, base)) {
                        return at;
                    }
                } else {
                    return at;
                }
                if (at >= size) {
                    return NONE;
                }
                at++;
            }
            return at;
        }

        /** The ITEMS of a CLAUSE up to its ; or the end. */
        private boolean readItems(String letters, int[] least, int[] most, int[] into, int base) {
            int seen = 0;
            for (int i = 0; i <= letters.length(); i++) {
                int sign = signAhead();
                if (at >= size || sign == ';') {
                    return true;
                }
                int item = letters.indexOf((char) sign);
                if (item < 0 || hasBit(seen, item)) {
                    return false;
                }
                seen |= 1 << item;
                at++;
                if (!readNumber(MOST_DIGITS, least[item], most[item])) {
                    return false;
                }
                into[base + item] = number;
            }
            return false;
        }

        /** The FAULT as a SCRIPT; NONE: none, and steps and clauses (how many) tell it. */
        int readScript() {
            at = 0;
            clauses = 0;
            for (int i = 0; i < MOST_STEPS; i++) {
                if (!readStep(i * STEP_ITEMS)) {
                    return at;
                }
                clauses++;
                int sign = signAhead();
                if (at >= size) {
                    return NONE;
                }
                if (sign != ';' || clauses == MOST_STEPS) {
                    return at;
                }
                at++;
            }
            return at;
        }

        private boolean readStep(int base) {
            int sign = signAhead();
            int kind = sign == 0 ? -1 : STEP_LETTERS.indexOf((char) sign);
            if (kind < 0) {
                return false;
            }
            at++;
            steps[base] = kind;
            int numbers = STEP_NUMBERS[kind];
            for (int i = 1; i < STEP_ITEMS; i++) {
                steps[base + i] = NONE;
                if (i <= numbers) {
                    if (i > 1 && !readComma()) {
                        return false;
                    }
                    if (!(kind == TICKS ? readNumber(2, 0, 99) : readNumber(1, 0, 9))) {
                        return false;
                    }
                    steps[base + i] = number;
                }
            }
            return true;
        }

        private boolean readComma() {
            if (signAhead() != ',') {
                return false;
            }
            at++;
            return true;
        }

        /** Leaves the number in number; or at stands at what is wrong with it. */
        private boolean readNumber(int mostDigits, int least, int most) {
            int digits = 0;
            number = 0;
            signAhead();
            while (digits < mostDigits && isDigitAt(at)) {
                number = number * 10 + signs[at] - '0';
                at++;
                digits++;
            }
            if (digits == 0 || isDigitAt(at)) {
                return false;
            }
            if (number < least || number > most) {
                at--;
                return false;
            }
            return true;
        }

        private boolean isDigitAt(int i) {
            return i < size && signs[i] >= '0' && signs[i] <= '9';
        }

        /** Goes over blanks; the sign there, 0 at the end. */
        private int signAhead() {
            while (at < size && signs[at] == ' ') {
                at++;
            }
            return at < size ? signs[at] : 0;
        }
    }

    /** The SCRIPTS, at most four. */
    private static final class Scripts {
        private static final int MOST = 4;
        private static final int WIDTH = Tape.MOST_STEPS * Tape.STEP_ITEMS;

        private final int[] steps = new int[MOST * WIDTH];
        private final int[] lengths = new int[MOST];
        private int size = 0;

        int take(int[] from, int length) {
            if (size >= MOST) {
                return NONE;
            }
            System.arraycopy(from, 0, steps, size * WIDTH, WIDTH);
            lengths[size] = length;
            size++;
            return size - 1;
        }

        boolean has(int script, int i) {
            return script >= 0 && script < size && i >= 0 && i < lengths[script];
        }

        int lengthOf(int script) {
            return lengths[script];
        }

        int told(int script, int i, int what) {
            return steps[script * WIDTH + i * Tape.STEP_ITEMS + what];
        }
    }

    /** The draws of YEARS, and the ACT that the latest ones tell. */
    private static final class Draws {
        private long x = 0;
        private int kind = 0;
        private int a = 0;
        private int b = 0;
        private int c = 0;
        private int d = 0;

        void start(long seed) {
            x = seed;
        }

        /** What an ACT does not need of a, b, c, d may be left from another one. */
        void choose(Row row) {
            int sort = draw(8);
            if (sort <= 3) {
                kind = COME;
                a = draw(row.stations);
                b = draw(row.stations);
                c = draw(row.levels);
                d = draw(9) + 1;
            } else if (sort <= 5) {
                kind = TICKS;
                a = draw(9) + 1;
            } else if (sort == 6) {
                kind = ERASER;
                a = draw(row.stations);
            } else {
                a = draw(row.stations - 1);
                kind = hasBit(row.cuts, a) ? HEALED : CUT;
            }
        }

        private int draw(int many) {
            x = x * 6364136223846793005L + 1442695040888963407L;
            return many < 1 ? 0 : (int) ((x >>> 33) % many);
        }
    }

    /** The LINES of all STATIONS with their counts; what waits are chains of cells. */
    private static final class Lines {
        private static final int MOST = MOST_STATIONS * BUSES * MOST_LEVELS;
        private static final int CELLS = MOST_STATIONS * MOST_HELD;

        private final int[] rq = new int[MOST];
        private final int[] cd = new int[MOST];
        private final int[] owed = new int[MOST];
        private final int[] length = new int[MOST];
        private final int[] first = new int[MOST];
        private final int[] last = new int[MOST];
        private final int[] numbers = new int[CELLS];
        private final int[] goals = new int[CELLS];
        private final int[] cameAt = new int[CELLS];
        private final int[] behind = new int[CELLS];
        private final int[] held = new int[MOST_STATIONS];
        private int free = 0;
        private int total = 0;

        static int indexOf(int station, int bus, int level) {
            return (station * BUSES + bus) * MOST_LEVELS + level;
        }

        void clear() {
            for (int i = 0; i < MOST; i++) {
                rq[i] = 0;
                cd[i] = 0;
                owed[i] = 0;
                length[i] = 0;
            }
            for (int i = 0; i < CELLS; i++) {
                behind[i] = i + 1;
            }
            for (int i = 0; i < MOST_STATIONS; i++) {
                held[i] = 0;
            }
            free = 0;
            total = 0;
        }

        void copyFrom(Lines other) {
            System.arraycopy(other.rq, 0, rq, 0, MOST);
            System.arraycopy(other.cd, 0, cd, 0, MOST);
            System.arraycopy(other.owed, 0, owed, 0, MOST);
            System.arraycopy(other.length, 0, length, 0, MOST);
            System.arraycopy(other.first, 0, first, 0, MOST);
            System.arraycopy(other.last, 0, last, 0, MOST);
            System.arraycopy(other.numbers, 0, numbers, 0, CELLS);
            System.arraycopy(other.goals, 0, goals, 0, CELLS);
            System.arraycopy(other.cameAt, 0, cameAt, 0, CELLS);
            System.arraycopy(other.behind, 0, behind, 0, CELLS);
            System.arraycopy(other.held, 0, held, 0, MOST_STATIONS);
            free = other.free;
            total = other.total;
        }

        /** Its first one is ACTIVE whenever a LINE is not empty, as it becomes so at once. */
        boolean isActive(int line) {
            return length[line] > 0;
        }

        int told(int line, int what) {
            switch (what) {
                case 0: return length[line];
                case 1: return isActive(line) ? 1 : 0;
                case 2: return rq[line];
                case 3: return cd[line];
                case 4: return owed[line];
                default: return isActive(line) ? numbers[first[line]] : 0;
            }
        }

        int waitingOne(int line, int i, int what) {
            if (i < 0 || i >= length[line]) {
                return NONE;
            }
            int cell = first[line];
            for (int k = 0; k < i && isCell(cell); k++) {
                cell = behind[cell];
            }
            if (!isCell(cell)) {
                return NONE;
            }
            switch (what) {
                case 0: return numbers[cell];
                case 1: return goals[cell];
                case 2: return cameAt[cell];
                default: return NONE;
            }
        }

        private static boolean isCell(int cell) {
            return cell >= 0 && cell < CELLS;
        }

        void append(int line, int station, int number, int goal, int time) {
            int cell = free;
            if (!isCell(cell)) {
                return;
            }
            free = behind[cell];
            numbers[cell] = number;
            goals[cell] = goal;
            cameAt[cell] = time;
            if (isActive(line)) {
                behind[last[line]] = cell;
            } else {
                first[line] = cell;
            }
            last[line] = cell;
            length[line]++;
            held[station]++;
            total++;
            if (length[line] == 1) {
                activate(line);
            }
        }

        private void activate(int line) {
            cd[line] = rq[line];
            rq[line] = 0;
            owed[line]++;
        }

        /** The first SEGMENT of a LINE that is not empty goes into the SLOT. */
        void moveFirst(int line, int station, Slot slot) {
            int cell = first[line];
            slot.number = numbers[cell];
            slot.from = station;
            slot.to = goals[cell];
            slot.level = line % MOST_LEVELS;
            slot.came = cameAt[cell];
            slot.read = false;
            first[line] = behind[cell];
            length[line]--;
            release(cell, station);
            if (isActive(line)) {
                activate(line);
            }
        }

        private void release(int cell, int station) {
            behind[cell] = free;
            free = cell;
            held[station]--;
            total--;
        }

        /** How many behind the first one of a LINE go to a STATION. */
        int behindFirst(int line, int goal) {
            int n = 0;
            int cell = first[line];
            for (int i = 0; i < length[line] && isCell(cell); i++) {
                if (i > 0 && goals[cell] == goal) {
                    n++;
                }
                cell = behind[cell];
            }
            return n;
        }

        void removeBehindFirst(int line, int station, int goal) {
            int there = length[line];
            int previous = first[line];
            for (int i = 1; i < there && isCell(previous); i++) {
                int cell = behind[previous];
                if (isCell(cell) && goals[cell] == goal) {
                    behind[previous] = behind[cell];
                    release(cell, station);
                    length[line]--;
                } else {
                    previous = cell;
                }
            }
            last[line] = previous;
        }

        /** An ask at a LEVEL is heard; base is LEVEL 0 of that STATION and BUS. */
        void hear(int base, int level) {
            rq[base + level]++;
            raiseBelow(base, level);
        }

        /** CD of what is ACTIVE, else RQ, is one more at each LEVEL below. */
        void raiseBelow(int base, int level) {
            for (int line = base; line < base + level; line++) {
                if (length[line] > 0) {
                    cd[line]++;
                } else {
                    rq[line]++;
                }
            }
        }

        /** An empty SLOT passed: CD of what is ACTIVE, else RQ, is one less at each LEVEL. */
        void easeBelow(int base, int level) {
            for (int line = base; line < base + level; line++) {
                if (length[line] > 0) {
                    cd[line] = Math.max(0, cd[line] - 1);
                } else {
                    rq[line] = Math.max(0, rq[line] - 1);
                }
            }
        }

        /** The LINE of the greatest LEVEL that may send, NONE without; inTurn: only with CD 0. */
        int sender(int base, int levels, boolean inTurn) {
            for (int line = base + levels - 1; line >= base; line--) {
                if (isActive(line) && (!inTurn || cd[line] == 0)) {
                    return line;
                }
            }
            return NONE;
        }

        /** Adds to each HOP how many of a LINE go over it. */
        void addParted(int line, int station, int[] parted) {
            int cell = first[line];
            for (int i = 0; i < length[line] && isCell(cell); i++) {
                int low = Math.min(station, goals[cell]);
                int high = Math.max(station, goals[cell]);
                for (int hop = low; hop < high; hop++) {
                    parted[hop]++;
                }
                cell = behind[cell];
            }
        }

        int activeOnes() {
            int n = 0;
            for (int line = 0; line < MOST; line++) {
                n += isActive(line) ? 1 : 0;
            }
            return n;
        }

        int allOwed() {
            int n = 0;
            for (int line = 0; line < MOST; line++) {
                n += owed[line];
            }
            return n;
        }

        int fullest() {
            int most = 0;
            for (int s = 1; s < MOST_STATIONS; s++) {
                if (held[s] > held[most]) {
                    most = s;
                }
            }
            return most;
        }
    }

    /** The SLOT that is at a STATION just now. */
    private static final class Slot {
        private boolean there = false;
        private int number = 0;
        private int from = 0;
        private int to = 0;
        private int level = 0;
        private int came = 0;
        private boolean read = false;
        private int asks = 0;
        private int owner = NOBODY;

        void begin() {
            there = true;
            makeEmpty();
            asks = 0;
            owner = NOBODY;
        }

        void makeEmpty() {
            number = 0;
            read = false;
        }

        boolean isEmpty() {
            return number == 0;
        }

        boolean isUnread() {
            return number != 0 && !read;
        }
    }

    /** The SLOTS on the HOPS: for each HOP and BUS as many places as DELAY can need. */
    private static final class Hops {
        private static final int PLACES = MOST_DELAY + 1;
        private static final int WIDTH = 8;
        private static final int LANE = PLACES * WIDTH;
        private static final int SIZE = MOST_HOPS * BUSES * LANE;
        private static final int NUMBER = 0;
        private static final int FROM = 1;
        private static final int TO = 2;
        private static final int LEVEL = 3;
        private static final int CAME = 4;
        private static final int STATE = 5;
        private static final int ASKS = 6;
        private static final int OWNER = 7;
        private static final int NOTHING = 0;
        private static final int UNREAD = 1;
        private static final int READ = 2;

        private final int[] cells = new int[SIZE];

        void clear() {
            for (int i = 0; i < SIZE; i++) {
                cells[i] = 0;
            }
        }

        void copyFrom(Hops other) {
            System.arraycopy(other.cells, 0, cells, 0, SIZE);
        }

        private static int laneOf(int hop, int bus) {
            return (hop * BUSES + bus) * LANE;
        }

        void put(int hop, int bus, int place, Slot slot) {
            int base = laneOf(hop, bus) + place * WIDTH;
            cells[base + NUMBER] = slot.number;
            cells[base + FROM] = slot.from;
            cells[base + TO] = slot.to;
            cells[base + LEVEL] = slot.level;
            cells[base + CAME] = slot.came;
            cells[base + STATE] = slot.read ? READ : UNREAD;
            cells[base + ASKS] = slot.asks;
            cells[base + OWNER] = slot.owner;
        }

        void take(int hop, int bus, int place, Slot slot) {
            int base = laneOf(hop, bus) + place * WIDTH;
            slot.there = cells[base + STATE] != NOTHING;
            slot.number = cells[base + NUMBER];
            slot.from = cells[base + FROM];
            slot.to = cells[base + TO];
            slot.level = cells[base + LEVEL];
            slot.came = cells[base + CAME];
            slot.read = cells[base + STATE] == READ;
            slot.asks = cells[base + ASKS];
            slot.owner = cells[base + OWNER];
            cells[base + STATE] = NOTHING;
        }

        int told(int hop, int bus, int what) {
            if (what < 0 || what > 3) {
                return NONE;
            }
            int n = 0;
            int lane = laneOf(hop, bus);
            for (int base = lane; base < lane + LANE; base += WIDTH) {
                if (cells[base + STATE] != NOTHING) {
                    n += toldOf(base, what);
                }
            }
            return n;
        }

        private int toldOf(int base, int what) {
            switch (what) {
                case 0: return 1;
                case 1: return cells[base + NUMBER] == 0 ? 0 : 1;
                case 2: return Integer.bitCount(cells[base + ASKS]);
                default: return cells[base + OWNER] == NOBODY ? 0 : 1;
            }
        }

        /** Nothing is on the HOP any more: how many SEGMENTS not READ were. */
        int empty(int hop) {
            int unread = 0;
            int lane = laneOf(hop, 0);
            for (int base = lane; base < lane + BUSES * LANE; base += WIDTH) {
                if (cells[base + STATE] == UNREAD && cells[base + NUMBER] != 0) {
                    unread++;
                }
                cells[base + STATE] = NOTHING;
            }
            return unread;
        }

        /** Marks all SEGMENTS that are under way by a LEVEL that there is not. */
        void markAll() {
            for (int base = 0; base < SIZE; base += WIDTH) {
                cells[base + LEVEL] = NONE;
            }
        }
    }

    /** What is counted of SEGMENTS, in all and of each STATION. */
    private static final class Tally {
        private int numbered = 0;
        private int delivered = 0;
        private int lost = 0;
        private int emptied = 0;
        private int underWay = 0;
        private int waits = 0;
        private final int[] received = new int[MOST_STATIONS];
        private final int[] sent = new int[MOST_STATIONS];
        private final int[] sinceFree = new int[MOST_STATIONS * BUSES];
        private final int[] greatestFrom = new int[MOST_STATIONS];
        private final int[] waitsFrom = new int[MOST_STATIONS];
        private final int[] deliveredFrom = new int[MOST_STATIONS];

        void clear() {
            numbered = 0;
            delivered = 0;
            lost = 0;
            emptied = 0;
            underWay = 0;
            waits = 0;
            for (int s = 0; s < MOST_STATIONS; s++) {
                received[s] = 0;
                sent[s] = 0;
                sinceFree[s * BUSES] = 0;
                sinceFree[s * BUSES + 1] = 0;
                greatestFrom[s] = 0;
                waitsFrom[s] = 0;
                deliveredFrom[s] = 0;
            }
        }

        void copyFrom(Tally other) {
            numbered = other.numbered;
            delivered = other.delivered;
            lost = other.lost;
            emptied = other.emptied;
            underWay = other.underWay;
            waits = other.waits;
            System.arraycopy(other.received, 0, received, 0, MOST_STATIONS);
            System.arraycopy(other.sent, 0, sent, 0, MOST_STATIONS);
            System.arraycopy(other.sinceFree, 0, sinceFree, 0, MOST_STATIONS * BUSES);
            System.arraycopy(other.greatestFrom, 0, greatestFrom, 0, MOST_STATIONS);
            System.arraycopy(other.waitsFrom, 0, waitsFrom, 0, MOST_STATIONS);
            System.arraycopy(other.deliveredFrom, 0, deliveredFrom, 0, MOST_STATIONS);
        }

        int ofStation(int station, int what) {
            switch (what) {
                case 1: return received[station];
                case 2: return sent[station];
                case 3: return sinceFree[station * BUSES];
                case 4: return sinceFree[station * BUSES + 1];
                case 5: return greatestFrom[station];
                default: return NONE;
            }
        }

        void addSent(int station) {
            sent[station]++;
            underWay++;
        }

        void addDelivered(int from, int to, int wait) {
            delivered++;
            underWay--;
            waits += wait;
            received[to]++;
            greatestFrom[from] = Math.max(greatestFrom[from], wait);
            waitsFrom[from] += wait;
            deliveredFrom[from]++;
        }

        void addLost(int many) {
            lost += many;
            underWay -= many;
        }
    }

    /** The latest rows of numbers that were told, the older ones gone. */
    private static final class Told {
        private final int[] rows;
        private final int most;
        private final int width;
        private int size = 0;
        private int start = 0;

        Told(int most, int width) {
            this.most = most;
            this.width = width;
            this.rows = new int[most * width];
        }

        void clear() {
            size = 0;
            start = 0;
        }

        void copyFrom(Told other) {
            size = other.size;
            start = other.start;
            System.arraycopy(other.rows, 0, rows, 0, Math.min(rows.length, other.rows.length));
        }

        /** A new latest row, instead of the oldest one if there is no room. */
        void open() {
            if (size < most) {
                size++;
            } else {
                start = start + 1 < most ? start + 1 : 0;
            }
        }

        void put(int what, int value) {
            rows[placeOf(0) + what] = value;
        }

        boolean has(int i, int what, int whats) {
            return i >= 0 && i < size && what >= 0 && what < whats;
        }

        int told(int i, int what) {
            return rows[placeOf(i) + what];
        }

        private int placeOf(int i) {
            int row = start + size - 1 - i;
            return (row < most ? row : row - most) * width;
        }
    }

    /** A ROW with all that ACTS change; no ROW: one of no STATIONS. */
    private static final class Row {
        private static final int MOST_LOG = 60;
        private static final int LOG_TOLD = 3;
        private static final int MOST_ARRIVALS = 40;
        private static final int ARRIVAL_TOLD = 4;
        // Beside what is told of an arrival its LEVEL is kept, for FIRST COME.
        private static final int ARRIVAL_WIDTH = 5;

        private int stations = 0;
        private int delay = 0;
        private int balance = 0;
        private int levels = 0;
        private int erasers = 0;
        private int cuts = 0;
        private int time = 0;
        private final int[] holder = new int[BUSES];
        private final int[] every = new int[BUSES];
        private final int[] begun = new int[BUSES];
        private final int[] parted = new int[MOST_HOPS];
        private final Lines lines = new Lines();
        private final Hops hops = new Hops();
        private final Tally tally = new Tally();
        private final Told acts = new Told(MOST_LOG, LOG_TOLD);
        private final Told arrivals = new Told(MOST_ARRIVALS, ARRIVAL_WIDTH);
        private final Slot slot = new Slot();

        void begin(int[] rules) {
            stations = rules[0];
            delay = rules[1];
            balance = rules[2];
            levels = rules[3];
            erasers = rules[4] & ((1 << stations) - 1);
            cuts = 0;
            time = 0;
            for (int bus = 0; bus < BUSES; bus++) {
                holder[bus] = NOBODY;
                every[bus] = 0;
                begun[bus] = 0;
            }
            lines.clear();
            hops.clear();
            tally.clear();
            acts.clear();
            arrivals.clear();
        }

        void copyFrom(Row other) {
            stations = other.stations;
            delay = other.delay;
            balance = other.balance;
            levels = other.levels;
            erasers = other.erasers;
            cuts = other.cuts;
            time = other.time;
            for (int bus = 0; bus < BUSES; bus++) {
                holder[bus] = other.holder[bus];
                every[bus] = other.every[bus];
                begun[bus] = other.begun[bus];
            }
            lines.copyFrom(other.lines);
            hops.copyFrom(other.hops);
            tally.copyFrom(other.tally);
            acts.copyFrom(other.acts);
            arrivals.copyFrom(other.arrivals);
        }

        boolean hasStation(int station) {
            return station >= 0 && station < stations;
        }

        boolean hasHop(int hop) {
            return hop >= 0 && hop < stations - 1;
        }

        boolean hasLine(int station, int bus, int level) {
            return hasStation(station) && isBus(bus) && level >= 0 && level < levels;
        }

        /** Whether there is a ROW that can be looked at n TICKS ahead. */
        boolean hasTimeFor(int n, int least) {
            return stations != 0 && n >= least && n <= FAR && time + n <= MOST_TIME;
        }

        boolean isQuiet() {
            return lines.total == 0 && tally.underWay == 0;
        }

        int refusalOf(int kind, int a, int b, int c, int d) {
            switch (kind) {
                case COME: return comeRefusal(a, b, c, d);
                case TICKS: return ticksRefusal(a);
                case CUT: return hopRefusal(a, false);
                case HEALED: return hopRefusal(a, true);
                case ERASER: return hasStation(a) ? FINE : NO_SUCH;
                case WITHDRAWN: return withdrawRefusal(a, b);
                case RESERVED: return reserveRefusal(a, b, c);
                default: return NO_SUCH;
            }
        }

        private int comeRefusal(int from, int to, int level, int many) {
            if (!hasStation(from) || !hasStation(to)) {
                return NO_SUCH;
            }
            if (level < 0 || level >= levels || many < 1 || many > MOST_MANY) {
                return OUT_OF_BOUNDS;
            }
            if (from == to) {
                return IS_SO;
            }
            return lines.held[from] + many > MOST_HELD ? TOO_MUCH : FINE;
        }

        private int ticksRefusal(int n) {
            if (stations == 0) {
                return NO_SUCH;
            }
            if (n < 1 || n > MOST_TICKS) {
                return OUT_OF_BOUNDS;
            }
            return time + n > MOST_TIME ? TOO_MUCH : FINE;
        }

        private int hopRefusal(int hop, boolean mustBeCut) {
            if (!hasHop(hop)) {
                return NO_SUCH;
            }
            return hasBit(cuts, hop) == mustBeCut ? FINE : IS_SO;
        }

        private int withdrawRefusal(int from, int to) {
            if (!hasStation(from) || !hasStation(to)) {
                return NO_SUCH;
            }
            return toWithdraw(from, to) == 0 ? IS_SO : FINE;
        }

        private int toWithdraw(int from, int to) {
            int n = 0;
            int base = Lines.indexOf(from, busOf(from, to), 0);
            for (int level = 0; level < levels; level++) {
                n += lines.behindFirst(base + level, to);
            }
            return n;
        }

        private int reserveRefusal(int bus, int station, int each) {
            if (!hasStation(station)) {
                return NO_SUCH;
            }
            if (!isBus(bus) || each != 0 && (each < LEAST_EVERY || each > MOST_EVERY)) {
                return OUT_OF_BOUNDS;
            }
            return every[bus] == each && (each == 0 || holder[bus] == station) ? IS_SO : FINE;
        }

        private static int busOf(int from, int to) {
            return to > from ? 0 : 1;
        }

        /** An ACT that refusalOf() let pass: its answer; the LOG tells it. */
        int carryOut(int kind, int a, int b, int c, int d) {
            int answer = NONE;
            switch (kind) {
                case COME:
                    answer = bring(a, b, c, d);
                    break;
                case TICKS:
                    answer = pass(a);
                    break;
                case CUT:
                    answer = sever(a);
                    break;
                case HEALED:
                    // Nothing is on it: the CUT emptied it, and nothing goes onto a CUT HOP.
                    cuts &= ~(1 << a);
                    answer = time;
                    break;
                case ERASER:
                    erasers ^= 1 << a;
                    answer = hasBit(erasers, a) ? 1 : 0;
                    break;
                case WITHDRAWN:
                    answer = callOff(a, b);
                    break;
                default:
                    answer = setAside(a, b, c);
                    break;
            }
            acts.open();
            acts.put(0, kind);
            acts.put(1, kind == RESERVED ? b : a);
            acts.put(2, lines.total);
            return answer;
        }

        void bringIfCan(int[] waits, int base) {
            int from = waits[base];
            int to = waits[base + 1];
            int level = waits[base + 2];
            int many = waits[base + 3];
            if (comeRefusal(from, to, level, many) == FINE) {
                bring(from, to, level, many);
            }
        }

        private int bring(int from, int to, int level, int many) {
            int line = Lines.indexOf(from, busOf(from, to), level);
            for (int i = 0; i < many; i++) {
                tally.numbered++;
                lines.append(line, from, tally.numbered, to, time);
            }
            return tally.numbered;
        }

        private int sever(int hop) {
            int lost = hops.empty(hop);
            cuts |= 1 << hop;
            tally.addLost(lost);
            return lost;
        }

        private int callOff(int from, int to) {
            int n = toWithdraw(from, to);
            int base = Lines.indexOf(from, busOf(from, to), 0);
            for (int level = 0; level < levels; level++) {
                lines.removeBehindFirst(base + level, from, to);
            }
            return n;
        }

        private int setAside(int bus, int station, int each) {
            int before = every[bus];
            every[bus] = each;
            holder[bus] = each == 0 ? NOBODY : station;
            begun[bus] = 0;
            return before;
        }

        int reservation(int bus, int what) {
            if (every[bus] == 0) {
                return NONE;
            }
            switch (what) {
                case 0: return holder[bus];
                case 1: return every[bus];
                case 2: return every[bus] - begun[bus];
                default: return NONE;
            }
        }

        /** So many TICKS: how many are DELIVERED by these. */
        int pass(int ticks) {
            int before = tally.delivered;
            for (int t = 0; t < ticks; t++) {
                for (int station = 0; station < stations; station++) {
                    visit(station, 0);
                }
                for (int station = stations - 1; station >= 0; station--) {
                    visit(station, 1);
                }
                time++;
            }
            return tally.delivered - before;
        }

        private void visit(int station, int bus) {
            receive(station, bus);
            if (!slot.there) {
                return;
            }
            readAt(station);
            if (slot.isEmpty()) {
                fill(station, bus);
            }
            if (slot.owner == station) {
                slot.owner = NOBODY;
            }
            exchangeAsks(Lines.indexOf(station, 1 - bus, 0));
            sendOn(station, bus);
        }

        private boolean isOpen(int hop) {
            return hasHop(hop) && !hasBit(cuts, hop);
        }

        /** The SLOT of this TICK; without DELAY it is still at hand from the STATION ahead. */
        private void receive(int station, int bus) {
            int hop = bus == 0 ? station - 1 : station;
            if (isOpen(hop)) {
                if (delay > 0) {
                    hops.take(hop, bus, (time + 1) % (delay + 1), slot);
                }
                return;
            }
            slot.begin();
            if (!hasHop(hop) && every[bus] > 0) {
                begun[bus]++;
                if (begun[bus] == every[bus]) {
                    begun[bus] = 0;
                    slot.owner = holder[bus];
                }
            }
        }

        private void readAt(int station) {
            if (slot.isUnread() && slot.to == station) {
                int wait = time - slot.came;
                slot.read = true;
                tally.addDelivered(slot.from, station, wait);
                arrivals.open();
                arrivals.put(0, slot.number);
                arrivals.put(1, slot.from);
                arrivals.put(2, station);
                arrivals.put(3, wait);
                arrivals.put(4, slot.level);
            }
            if (slot.read && hasBit(erasers, station)) {
                slot.makeEmpty();
                tally.emptied++;
            }
        }

        private void fill(int station, int bus) {
            boolean free = slot.owner == NOBODY;
            if (!free && slot.owner != station) {
                return;
            }
            int base = Lines.indexOf(station, bus, 0);
            int line = lines.sender(base, levels, free);
            if (line != NONE) {
                lines.moveFirst(line, station, slot);
                tally.addSent(station);
                if (free) {
                    keepBalance(station, bus, base);
                }
            } else if (free) {
                lines.easeBelow(base, levels);
            }
        }

        private void keepBalance(int station, int bus, int base) {
            if (balance == 0) {
                return;
            }
            int own = station * BUSES + bus;
            tally.sinceFree[own]++;
            if (tally.sinceFree[own] >= balance) {
                tally.sinceFree[own] = 0;
                lines.raiseBelow(base, levels);
            }
        }

        /** What the SLOT asks is heard, what is OWED asked; base is for the other BUS. */
        private void exchangeAsks(int base) {
            for (int level = levels - 1; level >= 0; level--) {
                if (hasBit(slot.asks, level)) {
                    lines.hear(base, level);
                } else if (lines.owed[base + level] > 0) {
                    slot.asks |= 1 << level;
                    lines.owed[base + level]--;
                    lines.raiseBelow(base, level);
                }
            }
        }

        private void sendOn(int station, int bus) {
            int hop = bus == 0 ? station : station - 1;
            if (!isOpen(hop)) {
                tally.addLost(slot.isUnread() ? 1 : 0);
            } else if (delay > 0) {
                hops.put(hop, bus, time % (delay + 1), slot);
            }
        }

        /** The HOP (0) that parts most, or how many (1). */
        int worstCut(int what) {
            for (int hop = 0; hop < MOST_HOPS; hop++) {
                parted[hop] = 0;
            }
            for (int station = 0; station < stations; station++) {
                int base = Lines.indexOf(station, 0, 0);
                for (int line = base; line < base + BUSES * MOST_LEVELS; line++) {
                    lines.addParted(line, station, parted);
                }
            }
            int worst = NONE;
            for (int hop = 0; hop < stations - 1; hop++) {
                if (isOpen(hop) && (worst == NONE || parted[hop] > parted[worst])) {
                    worst = hop;
                }
            }
            return worst == NONE || what == 0 ? worst : parted[worst];
        }

        int overall(int what) {
            switch (what) {
                case 0: return time;
                case 1: return lines.total;
                case 2: return tally.underWay;
                case 3: return tally.delivered;
                case 4: return tally.lost;
                case 5: return tally.waits;
                case 6: return tally.numbered;
                case 7: return lines.fullest();
                case 8: return lines.activeOnes();
                case 9: return lines.allOwed();
                case 10: return tally.emptied;
                default: return HIDDEN;
            }
        }
    }

    /** How it was ahead of each of the latest ACTS; rows are made once and used again. */
    private static final class Past {
        private static final int MOST = 40;

        private final Row[] rows = new Row[MOST];
        private int size = 0;
        private int start = 0;

        void forget() {
            size = 0;
            start = 0;
        }

        void keep(Row now) {
            int place = (start + size) % MOST;
            if (size < MOST) {
                size++;
            } else {
                start = (start + 1) % MOST;
            }
            if (rows[place] == null) {
                rows[place] = new Row();
            }
            rows[place].copyFrom(now);
        }

        int bringBack(Row now) {
            if (size == 0) {
                return NONE;
            }
            size--;
            Row row = rows[(start + size) % MOST];
            if (row != null) {
                now.copyFrom(row);
            }
            return size;
        }
    }

    /** What is told apart, from as it is now: on a copy. */
    private static final class Outlook {
        private static final int LEVEL_COLUMN = 4;

        private final Row apart = new Row();
        private final int[] latest = new int[BUSES * MOST_LEVELS];
        private final int[] latestNow = new int[BUSES * MOST_LEVELS];
        private final int[] sorted = new int[Row.MOST_ARRIVALS];

        private static int ticksLeft(Row now) {
            return Math.min(FAR, MOST_TIME - now.time);
        }

        /** Up to n TICKS: behind the last SEGMENT nothing is told any more. */
        private void pass(int n) {
            for (int t = 0; t < n && !apart.isQuiet(); t++) {
                apart.pass(1);
            }
        }

        int forecast(Row now, int n, int what) {
            apart.copyFrom(now);
            pass(n);
            switch (what) {
                case 0: return apart.tally.delivered - now.tally.delivered;
                case 1: return apart.lines.total;
                default: return apart.tally.lost - now.tally.lost;
            }
        }

        int arrivalOf(Row now, int number) {
            apart.copyFrom(now);
            int left = ticksLeft(now);
            for (int t = 1; t <= left && !apart.isQuiet(); t++) {
                int arrived = apart.pass(1);
                for (int i = 0; i < arrived && i < apart.arrivals.size; i++) {
                    if (apart.arrivals.told(i, 0) == number) {
                        return t;
                    }
                }
            }
            return NONE;
        }

        int arrivingAs(Row now, int i) {
            apart.copyFrom(now);
            int left = ticksLeft(now);
            int ahead = 0;
            for (int t = 1; t <= left && !apart.isQuiet(); t++) {
                int arrived = apart.pass(1);
                if (i < ahead + arrived) {
                    // The latest arrival of this TICK is told first.
                    return apart.arrivals.told(ahead + arrived - 1 - i, 0);
                }
                ahead += arrived;
            }
            return NONE;
        }

        int emptyBehind(Row now) {
            apart.copyFrom(now);
            int left = ticksLeft(now);
            int t = 0;
            while (t < left && apart.lines.total > 0) {
                apart.pass(1);
                t++;
            }
            return apart.lines.total == 0 ? t : NONE;
        }

        int slotsOf(Row now, int station, int n) {
            apart.copyFrom(now);
            pass(n);
            return apart.tally.sent[station] - now.tally.sent[station];
        }

        boolean isInOrder(Row now) {
            apart.copyFrom(now);
            apart.hops.markAll();
            for (int k = 0; k < latest.length; k++) {
                latest[k] = 0;
                latestNow[k] = 0;
            }
            int left = ticksLeft(now);
            for (int t = 1; t <= left && !apart.isQuiet(); t++) {
                int arrived = apart.pass(1);
                for (int i = 0; i < arrived && i < apart.arrivals.size; i++) {
                    if (comesTooLate(i)) {
                        return false;
                    }
                }
                System.arraycopy(latestNow, 0, latest, 0, latest.length);
            }
            return true;
        }

        /** Whether one with a greater number, of its BUS and LEVEL, came in an earlier TICK. */
        private boolean comesTooLate(int i) {
            int level = apart.arrivals.told(i, LEVEL_COLUMN);
            if (level < 0 || level >= MOST_LEVELS) {
                return false;
            }
            int number = apart.arrivals.told(i, 0);
            int kind = Row.busOf(apart.arrivals.told(i, 1), apart.arrivals.told(i, 2)) * MOST_LEVELS + level;
            latestNow[kind] = Math.max(latestNow[kind], number);
            return number < latest[kind];
        }

        int bestEraser(Row now, int n, int what) {
            int best = NONE;
            int most = NONE;
            for (int station = 0; station < now.stations; station++) {
                if (!hasBit(now.erasers, station)) {
                    apart.copyFrom(now);
                    apart.erasers |= 1 << station;
                    pass(n);
                    int delivered = apart.tally.delivered - now.tally.delivered;
                    if (delivered > most) {
                        most = delivered;
                        best = station;
                    }
                }
            }
            return what == 0 ? best : most;
        }

        int lessBy(Row now, int bus, int station, int every, int n) {
            apart.copyFrom(now);
            pass(n);
            int without = apart.tally.delivered;
            apart.copyFrom(now);
            apart.setAside(bus, station, every);
            pass(n);
            return without - apart.tally.delivered;
        }

        int tryOut(Row now, Scripts scripts, int script, int what) {
            apart.copyFrom(now);
            int length = scripts.lengthOf(script);
            for (int i = 0; i < length; i++) {
                int kind = scripts.told(script, i, 0);
                int a = scripts.told(script, i, 1);
                int b = scripts.told(script, i, 2);
                int c = scripts.told(script, i, 3);
                int d = scripts.told(script, i, 4);
                if (apart.refusalOf(kind, a, b, c, d) != FINE) {
                    return what == 0 ? i : apart.lines.total;
                }
                apart.carryOut(kind, a, b, c, d);
            }
            return what == 0 ? NONE : apart.lines.total;
        }

        int spreadOf(Told arrivals, int what) {
            int stations = 0;
            int size = Math.min(arrivals.size, sorted.length);
            for (int i = 0; i < size; i++) {
                stations |= 1 << arrivals.told(i, 1);
                insert(arrivals.told(i, 3), i);
            }
            if (size == 0) {
                return NONE;
            }
            switch (what) {
                case 0: return sorted[0];
                case 1: return sorted[size - 1];
                case 2: return sorted[size / 2];
                case 3: return stations;
                default: return NONE;
            }
        }

        private void insert(int value, int size) {
            int place = size;
            while (place > 0 && sorted[place - 1] > value) {
                sorted[place] = sorted[place - 1];
                place--;
            }
            sorted[place] = value;
        }
    }
}
