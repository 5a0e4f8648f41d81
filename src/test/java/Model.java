import java.util.ArrayList;
import java.util.List;
import java.util.NoSuchElementException;
import java.util.TreeMap;
import java.util.TreeSet;

/** A second reading of the document: slow and plain, with the Java library, to hold the class against. */
public final class Model {
    static final int NONE = -1;
    static final int HIDDEN = -1000000;

    static final class Segment {
        int number;
        int from;
        int to;
        int level;
        int came;
        boolean read;

        Segment copy() {
            Segment s = new Segment();
            s.number = number;
            s.from = from;
            s.to = to;
            s.level = level;
            s.came = came;
            s.read = read;
            return s;
        }
    }

    static final class Slot {
        Segment segment;
        TreeSet<Integer> asks = new TreeSet<>();
        Integer owner;
        int wentOn;

        Slot copy() {
            Slot s = new Slot();
            s.segment = segment == null ? null : segment.copy();
            s.asks.addAll(asks);
            s.owner = owner;
            s.wentOn = wentOn;
            return s;
        }
    }

    static final class Line {
        List<Segment> waiting = new ArrayList<>();
        boolean active;
        int rq;
        int cd;
        int owed;

        void wake() {
            if (!active && !waiting.isEmpty()) {
                active = true;
                cd = rq;
                rq = 0;
                owed++;
            }
        }

        void more() {
            if (active) cd++; else rq++;
        }

        void less() {
            if (active) cd = cd == 0 ? 0 : cd - 1; else rq = rq == 0 ? 0 : rq - 1;
        }

        Segment leave() {
            Segment s = waiting.remove(0);
            active = false;
            wake();
            return s;
        }

        Line copy() {
            Line l = new Line();
            for (Segment s : waiting) l.waiting.add(s.copy());
            l.active = active;
            l.rq = rq;
            l.cd = cd;
            l.owed = owed;
            return l;
        }
    }

    static final class State {
        int n;
        int delay;
        int balance;
        int levels;
        int time;
        TreeSet<Integer> erasers = new TreeSet<>();
        TreeSet<Integer> cuts = new TreeSet<>();
        int[][] reserved = new int[2][]; // {station, every, how many began since}
        TreeMap<Integer, Line> lines = new TreeMap<>();
        TreeMap<Integer, List<Slot>> hops = new TreeMap<>();
        int[][] sent = new int[8][2];
        int[] sentInAll = new int[8];
        int numbered;
        int lost;
        int emptied;
        List<int[]> log = new ArrayList<>();
        List<int[]> delivered = new ArrayList<>(); // number, from, to, wait, level, tick

        Line line(int station, int bus, int level) {
            return lines.computeIfAbsent(station * 100 + bus * 10 + level, k -> new Line());
        }

        List<Slot> hop(int hop, int bus) {
            return hops.computeIfAbsent(hop * 10 + bus, k -> new ArrayList<>());
        }

        State copy() {
            State s = new State();
            s.n = n;
            s.delay = delay;
            s.balance = balance;
            s.levels = levels;
            s.time = time;
            s.erasers.addAll(erasers);
            s.cuts.addAll(cuts);
            for (int b = 0; b < 2; b++) s.reserved[b] = reserved[b] == null ? null : reserved[b].clone();
            lines.forEach((k, l) -> s.lines.put(k, l.copy()));
            hops.forEach((k, l) -> {
                List<Slot> list = new ArrayList<>();
                for (Slot x : l) list.add(x.copy());
                s.hops.put(k, list);
            });
            for (int i = 0; i < 8; i++) s.sent[i] = sent[i].clone();
            s.sentInAll = sentInAll.clone();
            s.numbered = numbered;
            s.lost = lost;
            s.emptied = emptied;
            s.log.addAll(log);
            s.delivered.addAll(delivered);
            return s;
        }

        int waitingAt(int station) {
            int w = 0;
            for (int b = 0; b < 2; b++) for (int l = 0; l < levels; l++) w += line(station, b, l).waiting.size();
            return w;
        }

        int waiting() {
            int w = 0;
            for (int s = 0; s < n; s++) w += waitingAt(s);
            return w;
        }

        void lose(Slot slot) {
            if (slot.segment != null && !slot.segment.read) lost++;
        }

        void oneTick() {
            for (int bus = 0; bus < 2; bus++) {
                for (int k = 0; k < n; k++) {
                    int station = bus == 0 ? k : n - 1 - k;
                    int hopBehind = bus == 0 ? station - 1 : station;
                    int hopNext = bus == 0 ? station : station - 1;
                    boolean isFirst = k == 0;
                    boolean isLast = k == n - 1;
                    Slot slot = null;
                    if (isFirst || cuts.contains(hopBehind)) {
                        slot = new Slot();
                        if (isFirst && reserved[bus] != null) {
                            reserved[bus][2]++;
                            if (reserved[bus][2] % reserved[bus][1] == 0) slot.owner = reserved[bus][0];
                        }
                    } else {
                        List<Slot> on = hop(hopBehind, bus);
                        for (Slot s : new ArrayList<>(on)) {
                            if (s.wentOn == time - delay) {
                                slot = s;
                                on.remove(s);
                            }
                        }
                    }
                    if (slot == null) continue;
                    at(slot, station, bus);
                    if (isLast || cuts.contains(hopNext)) {
                        lose(slot);
                    } else {
                        slot.wentOn = time;
                        hop(hopNext, bus).add(slot);
                    }
                }
            }
            time++;
        }

        void at(Slot slot, int station, int bus) {
            // (1)
            if (slot.segment != null && !slot.segment.read && slot.segment.to == station) {
                Segment g = slot.segment;
                g.read = true;
                delivered.add(new int[] {g.number, g.from, g.to, time - g.came, g.level, time});
            }
            if (erasers.contains(station) && slot.segment != null && slot.segment.read) {
                slot.segment = null;
                emptied++;
            }
            // (2)
            if (slot.segment == null) {
                if (slot.owner != null) {
                    if (slot.owner == station) {
                        for (int l = levels - 1; l >= 0; l--) {
                            if (!line(station, bus, l).waiting.isEmpty()) {
                                slot.segment = line(station, bus, l).leave();
                                sentInAll[station]++;
                                break;
                            }
                        }
                    }
                } else {
                    for (int l = levels - 1; l >= 0 && slot.segment == null; l--) {
                        Line line = line(station, bus, l);
                        if (line.active && line.cd == 0) slot.segment = line.leave();
                    }
                    if (slot.segment != null) {
                        sentInAll[station]++;
                        if (balance > 0) {
                            sent[station][bus]++;
                            if (sent[station][bus] == balance) {
                                sent[station][bus] = 0;
                                for (int l = 0; l < levels; l++) line(station, bus, l).more();
                            }
                        }
                    } else {
                        for (int l = 0; l < levels; l++) line(station, bus, l).less();
                    }
                }
            }
            if (slot.owner != null && slot.owner == station) slot.owner = null;
            // (3)
            int other = bus == 0 ? 1 : 0;
            for (int l = levels - 1; l >= 0; l--) {
                Line line = line(station, other, l);
                if (slot.asks.contains(l)) {
                    line.rq++;
                    for (int m = 0; m < l; m++) line(station, other, m).more();
                } else if (line.owed > 0) {
                    slot.asks.add(l);
                    line.owed--;
                    for (int m = 0; m < l; m++) line(station, other, m).more();
                }
            }
        }

        boolean hasStation(int s) {
            return 0 <= s && s < n;
        }

        /** -1 or the number that STATUS has for the refusal. */
        int refusal(int kind, int[] v) {
            switch (kind) {
                case 0:
                    if (!hasStation(v[0]) || !hasStation(v[1])) return 0;
                    if (v[2] < 0 || v[2] >= levels || v[3] < 1 || v[3] > 9) return 1;
                    if (v[0] == v[1]) return 2;
                    return waitingAt(v[0]) + v[3] > 30 ? 3 : -1;
                case 1:
                    if (n == 0) return 0;
                    if (v[0] < 1 || v[0] > 60) return 1;
                    return time + v[0] > 9999 ? 3 : -1;
                case 2:
                    if (n == 0 || v[0] < 0 || v[0] >= n - 1) return 0;
                    return cuts.contains(v[0]) ? 2 : -1;
                case 3:
                    if (n == 0 || v[0] < 0 || v[0] >= n - 1) return 0;
                    return cuts.contains(v[0]) ? -1 : 2;
                case 4:
                    return hasStation(v[0]) ? -1 : 0;
                case 5:
                    if (!hasStation(v[0]) || !hasStation(v[1])) return 0;
                    return copy().withdraw(v[0], v[1]) == 0 ? 2 : -1;
                default:
                    if (!hasStation(v[1])) return 0;
                    if (v[0] < 0 || v[0] > 1 || v[2] < 0 || v[2] == 1 || v[2] > 9) return 1;
                    int[] r = reserved[v[0]];
                    if (v[2] == 0) return r == null ? 2 : -1;
                    return r != null && r[0] == v[1] && r[1] == v[2] ? 2 : -1;
            }
        }

        int come(int from, int to, int level, int many) {
            for (int i = 0; i < many; i++) {
                Segment g = new Segment();
                g.number = ++numbered;
                g.from = from;
                g.to = to;
                g.level = level;
                g.came = time;
                Line line = line(from, to > from ? 0 : 1, level);
                line.waiting.add(g);
                line.wake();
            }
            return numbered;
        }

        int withdraw(int from, int to) {
            int gone = 0;
            for (int b = 0; b < 2; b++) {
                for (int l = 0; l < levels; l++) {
                    List<Segment> w = line(from, b, l).waiting;
                    for (int i = w.size() - 1; i >= 1; i--) {
                        if (w.get(i).to == to) {
                            w.remove(i);
                            gone++;
                        }
                    }
                }
            }
            return gone;
        }

        int carry(int kind, int[] v) {
            int answer = 0;
            if (kind == 0) answer = come(v[0], v[1], v[2], v[3]);
            if (kind == 1) {
                int was = delivered.size();
                for (int i = 0; i < v[0]; i++) oneTick();
                answer = delivered.size() - was;
            }
            if (kind == 2) {
                int was = lost;
                cuts.add(v[0]);
                for (int b = 0; b < 2; b++) {
                    for (Slot s : hop(v[0], b)) lose(s);
                    hop(v[0], b).clear();
                }
                answer = lost - was;
            }
            if (kind == 3) {
                cuts.remove(v[0]);
                answer = time;
            }
            if (kind == 4) {
                if (!erasers.remove(v[0])) erasers.add(v[0]);
                answer = erasers.contains(v[0]) ? 1 : 0;
            }
            if (kind == 5) answer = withdraw(v[0], v[1]);
            if (kind == 6) {
                answer = reserved[v[0]] == null ? 0 : reserved[v[0]][1];
                reserved[v[0]] = v[2] == 0 ? null : new int[] {v[1], v[2], 0};
            }
            log.add(new int[] {kind, kind == 6 ? v[1] : v[0], waiting()});
            return answer;
        }
    }

    String tape = "";
    State now = new State();
    List<State> past = new ArrayList<>();
    State kept;
    List<List<int[]>> scripts = new ArrayList<>();
    int[] status = new int[4];
    int lastRefusal;

    public int feed(int a, int b, int c, int d, int e) {
        StringBuilder more = new StringBuilder();
        for (int v : new int[] {a, b, c, d, e}) {
            for (int k = 3; k >= 0; k--) {
                char sign = (char) ((v >> (8 * k)) & 0xff);
                if (sign != 0) more.append(sign);
            }
        }
        if (tape.length() + more.length() > 240) return NONE;
        tape += more;
        return tape.length();
    }

    public boolean end(int n) {
        if (n < 0 || n > tape.length()) return false;
        tape = tape.substring(0, n);
        return true;
    }

    public int fault(int sort) {
        if (sort == 0) return new Grammar().rowFault(tape);
        if (sort == 1) return new Grammar().scriptFault(tape);
        return -2;
    }

    public int text(int sort) {
        Grammar g = new Grammar();
        if (sort == 0) {
            if (g.rowFault(tape) != NONE) return NONE;
            State s = new State();
            s.n = g.rules.getOrDefault('n', 4);
            s.delay = g.rules.getOrDefault('d', 0);
            s.balance = g.rules.getOrDefault('b', 0);
            s.levels = g.rules.getOrDefault('l', 1);
            for (int k = 0; k < s.n; k++) if ((g.rules.getOrDefault('e', 0) & (1 << k)) != 0) s.erasers.add(k);
            for (TreeMap<Character, Integer> q : g.waits) {
                int[] v = {q.getOrDefault('f', 0), q.getOrDefault('t', 1), q.getOrDefault('l', 0), q.getOrDefault('m', 1)};
                if (s.refusal(0, v) == -1) s.come(v[0], v[1], v[2], v[3]);
            }
            now = s;
            past.clear();
            kept = null;
            tape = "";
            return s.n;
        }
        if (sort == 1) {
            if (g.scriptFault(tape) != NONE || scripts.size() == 4) return NONE;
            scripts.add(g.steps);
            tape = "";
            return scripts.size() - 1;
        }
        return NONE;
    }

    private static int bits(TreeSet<Integer> set) {
        int b = 0;
        for (int k : set) b += 1 << k;
        return b;
    }

    public int rule(int what) {
        if (now.n == 0 || what < 0 || what > 5) return NONE;
        return new int[] {now.n, now.delay, now.balance, now.levels, bits(now.erasers), bits(now.cuts)}[what];
    }

    private boolean hasLine(int station, int bus, int level) {
        return now.hasStation(station) && (bus == 0 || bus == 1) && level >= 0 && level < now.levels;
    }

    public int line(int station, int bus, int level, int what) {
        if (!hasLine(station, bus, level) || what < 0 || what > 5) throw new NoSuchElementException();
        Line l = now.line(station, bus, level);
        return new int[] {l.waiting.size(), l.active ? 1 : 0, l.rq, l.cd, l.owed,
            l.waiting.isEmpty() ? 0 : l.waiting.get(0).number}[what];
    }

    public int waiting(int station, int bus, int level, int i, int what) {
        if (!hasLine(station, bus, level) || what < 0 || what > 2) return NONE;
        List<Segment> w = now.line(station, bus, level).waiting;
        if (i < 0 || i >= w.size()) return NONE;
        return new int[] {w.get(i).number, w.get(i).to, w.get(i).came}[what];
    }

    public int station(int station, int what) {
        if (!now.hasStation(station) || what < 0 || what > 5) return NONE;
        int to = 0;
        int greatest = 0;
        for (int[] d : now.delivered) {
            if (d[2] == station) to++;
            if (d[1] == station) greatest = Math.max(greatest, d[3]);
        }
        return new int[] {now.waitingAt(station), to, now.sentInAll[station], now.sent[station][0], now.sent[station][1],
            greatest}[what];
    }

    public int hop(int hop, int bus, int what) {
        if (now.n == 0 || hop < 0 || hop >= now.n - 1 || bus < 0 || bus > 1 || what < 0 || what > 3) return NONE;
        int[] v = new int[4];
        for (Slot s : now.hop(hop, bus)) {
            v[0]++;
            if (s.segment != null) v[1]++;
            v[2] += s.asks.size();
            if (s.owner != null) v[3]++;
        }
        return v[what];
    }

    private int act(int kind, int... v) {
        lastRefusal = now.refusal(kind, v);
        if (lastRefusal != -1) return NONE;
        past.add(now.copy());
        if (past.size() > 40) past.remove(0);
        return now.carry(kind, v);
    }

    private int told(int answer) {
        if (lastRefusal != -1) status[lastRefusal]++;
        return answer;
    }

    public int come(int from, int to, int level, int many) {
        return told(act(0, from, to, level, many));
    }

    public int tick(int n) {
        return told(act(1, n));
    }

    public int cut(int hop) {
        return told(act(2, hop));
    }

    public int heal(int hop) {
        return told(act(3, hop));
    }

    public int eraser(int station) {
        return told(act(4, station));
    }

    public int withdraw(int from, int to) {
        return told(act(5, from, to));
    }

    public int reserve(int bus, int station, int every) {
        return told(act(6, bus, station, every));
    }

    public int reserved(int bus, int what) {
        if (now.n == 0 || bus < 0 || bus > 1 || now.reserved[bus] == null || what < 0 || what > 2) return NONE;
        int[] r = now.reserved[bus];
        return new int[] {r[0], r[1], r[1] - r[2] % r[1]}[what];
    }

    private long x;

    private int draw(int of) {
        x = x * 6364136223846793005L + 1442695040888963407L;
        return (int) Long.remainderUnsigned(x >>> 33, of);
    }

    public int years(int n, long seed) {
        if (now.n == 0 || n < 1 || n > 40) return NONE;
        x = seed;
        for (int i = 0; i < n; i++) {
            int sort = draw(8);
            if (sort < 4) {
                int from = draw(now.n);
                int to = draw(now.n);
                int level = draw(now.levels);
                int many = draw(9) + 1;
                act(0, from, to, level, many);
            } else if (sort < 6) {
                act(1, draw(9) + 1);
            } else if (sort == 6) {
                act(4, draw(now.n));
            } else {
                int hop = draw(now.n - 1);
                act(now.cuts.contains(hop) ? 3 : 2, hop);
            }
        }
        return now.time;
    }

    public int status(int what) {
        return what >= 0 && what < 4 ? status[what] : NONE;
    }

    public int undo() {
        if (past.isEmpty()) return NONE;
        now = past.remove(past.size() - 1);
        return past.size();
    }

    public int log(int i, int what) {
        if (i < 0 || i >= Math.min(60, now.log.size()) || what < 0 || what > 2) return HIDDEN;
        return now.log.get(now.log.size() - 1 - i)[what];
    }

    public int arrival(int i, int what) {
        if (i < 0 || i >= Math.min(40, now.delivered.size()) || what < 0 || what > 3) return NONE;
        return now.delivered.get(now.delivered.size() - 1 - i)[what];
    }

    private State far(int n) {
        State s = now.copy();
        for (int i = 0; i < n && s.time < 9999; i++) s.oneTick();
        return s;
    }

    private boolean within(int n, int least) {
        return now.n > 0 && n >= least && n <= 200 && now.time + n <= 9999;
    }

    public int ahead(int n, int what) {
        if (!within(n, 0) || what < 0 || what > 2) return NONE;
        State s = far(n);
        return new int[] {s.delivered.size() - now.delivered.size(), s.waiting(), s.lost - now.lost}[what];
    }

    public int when(int number) {
        if (now.n == 0) return NONE;
        State s = far(200);
        for (int i = now.delivered.size(); i < s.delivered.size(); i++) {
            int[] d = s.delivered.get(i);
            if (d[0] == number) return d[5] - now.time + 1;
        }
        return NONE;
    }

    public int next(int i) {
        if (now.n == 0 || i < 0) return NONE;
        State s = far(200);
        long at = (long) now.delivered.size() + i;
        return at < s.delivered.size() ? s.delivered.get((int) at)[0] : NONE;
    }

    public int drained() {
        if (now.n == 0) return NONE;
        State s = now.copy();
        for (int t = 0; t <= 200; t++) {
            if (s.waiting() == 0) return t;
            if (s.time == 9999) return NONE;
            s.oneTick();
        }
        return NONE;
    }

    public int share(int station, int n) {
        if (!now.hasStation(station) || !within(n, 1)) return NONE;
        return far(n).sentInAll[station] - now.sentInAll[station];
    }

    private static int fraction(int up, int low, int what) {
        if (what < 0 || what > 1) return NONE;
        for (int d = low; d > 1; d--) {
            if (up % d == 0 && low % d == 0) {
                up /= d;
                low /= d;
            }
        }
        return what == 0 ? up : low;
    }

    public int fair(int m, int what) {
        if (now.n == 0 || m < 1 || m > 99) return NONE;
        return fraction(now.balance, 1 + now.balance * m, what);
    }

    public boolean firstCome() {
        if (now.n == 0) return false;
        TreeSet<Integer> waits = new TreeSet<>();
        for (Line l : now.lines.values()) for (Segment g : l.waiting) waits.add(g.number);
        State s = far(200);
        List<int[]> got = new ArrayList<>();
        for (int i = now.delivered.size(); i < s.delivered.size(); i++) {
            if (waits.contains(s.delivered.get(i)[0])) got.add(s.delivered.get(i));
        }
        for (int[] a : got) {
            for (int[] b : got) {
                boolean alike = (a[1] < a[2]) == (b[1] < b[2]) && a[4] == b[4];
                if (alike && a[0] < b[0] && a[5] > b[5]) return false;
            }
        }
        return true;
    }

    public int worst(int what) {
        if (now.n == 0 || now.cuts.size() == now.n - 1 || what < 0 || what > 1) return NONE;
        int best = -1;
        int most = -1;
        for (int h = 0; h < now.n - 1; h++) {
            if (now.cuts.contains(h)) continue;
            int parts = 0;
            for (Line l : now.lines.values()) {
                for (Segment g : l.waiting) if ((g.from <= h) != (g.to <= h)) parts++;
            }
            if (parts > most) {
                most = parts;
                best = h;
            }
        }
        return what == 0 ? best : most;
    }

    public int gain(int n, int what) {
        if (!within(n, 1) || what < 0 || what > 1 || now.erasers.size() == now.n) return NONE;
        int best = -1;
        int most = -1;
        for (int s = 0; s < now.n; s++) {
            if (now.erasers.contains(s)) continue;
            State t = now.copy();
            t.erasers.add(s);
            for (int i = 0; i < n; i++) t.oneTick();
            if (t.delivered.size() - now.delivered.size() > most) {
                most = t.delivered.size() - now.delivered.size();
                best = s;
            }
        }
        return what == 0 ? best : most;
    }

    public int spread(int what) {
        if (now.delivered.isEmpty() || what < 0 || what > 3) return NONE;
        List<Integer> waits = new ArrayList<>();
        TreeSet<Integer> from = new TreeSet<>();
        for (int[] d : now.delivered.subList(Math.max(0, now.delivered.size() - 40), now.delivered.size())) {
            waits.add(d[3]);
            from.add(d[1]);
        }
        waits.sort(null);
        return new int[] {waits.get(0), waits.get(waits.size() - 1), waits.get(waits.size() / 2), bits(from)}[what];
    }

    public int mean(int station, int what) {
        if (!now.hasStation(station)) return NONE;
        int sum = 0;
        int many = 0;
        for (int[] d : now.delivered) {
            if (d[1] == station) {
                sum += d[3];
                many++;
            }
        }
        return many == 0 ? NONE : fraction(sum, many, what);
    }

    public int hurt(int bus, int station, int every, int n) {
        int[] v = {bus, station, every};
        if (now.refusal(6, v) != -1 || !within(n, 1)) return HIDDEN;
        State with = now.copy();
        with.carry(6, v);
        for (int i = 0; i < n; i++) with.oneTick();
        return far(n).delivered.size() - with.delivered.size();
    }

    public int step(int script, int i, int what) {
        if (script < 0 || script >= scripts.size() || i < 0 || i >= scripts.get(script).size() || what < 0 || what > 4) {
            return HIDDEN;
        }
        int[] s = scripts.get(script).get(i);
        return what < s.length ? s[what] : NONE;
    }

    private static int[] numbers(int[] step) {
        return java.util.Arrays.copyOfRange(step, 1, step.length);
    }

    public int run(int script, int what) {
        if (script < 0 || script >= scripts.size() || now.n == 0 || what < 0 || what > 1) return HIDDEN;
        State s = now.copy();
        int steps = 0;
        for (int[] step : scripts.get(script)) {
            if (s.refusal(step[0], numbers(step)) != -1) return what == 0 ? steps : s.waiting();
            s.carry(step[0], numbers(step));
            steps++;
        }
        return what == 0 ? NONE : s.waiting();
    }

    public int perform(int script) {
        if (script < 0 || script >= scripts.size() || now.n == 0) return NONE;
        int steps = 0;
        for (int[] step : scripts.get(script)) {
            act(step[0], numbers(step));
            if (lastRefusal != -1) break;
            steps++;
        }
        return steps;
    }

    public int all(int what) {
        if (now.n == 0 || what < 0 || what > 10) return HIDDEN;
        int under = 0;
        for (List<Slot> l : now.hops.values()) {
            for (Slot s : l) if (s.segment != null && !s.segment.read) under++;
        }
        int waits = 0;
        for (int[] d : now.delivered) waits += d[3];
        int most = 0;
        for (int s = 0; s < now.n; s++) if (now.waitingAt(s) > now.waitingAt(most)) most = s;
        int active = 0;
        int owed = 0;
        for (Line l : now.lines.values()) {
            active += l.active ? 1 : 0;
            owed += l.owed;
        }
        return new int[] {now.time, now.waiting(), under, now.delivered.size(), now.lost, waits, now.numbered, most, active,
            owed, now.emptied}[what];
    }

    public int image() {
        if (now.n == 0) return NONE;
        kept = now.copy();
        return now.time;
    }

    public int back() {
        if (kept == null) return NONE;
        now = kept.copy();
        past.clear();
        return now.time;
    }

    public int count(int what) {
        if (what < 0 || what > 5) return HIDDEN;
        return new int[] {now.n, scripts.size(), tape.length(), Math.min(60, now.log.size()), past.size(),
            Math.min(40, now.delivered.size())}[what];
    }
}
