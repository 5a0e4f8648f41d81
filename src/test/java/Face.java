import java.util.ArrayList;
import java.util.List;

/** All that an object tells, to see whether two were told alike. */
final class Face {
    /** A call of the face; a boolean counts 1 or 0, an exception Check.THROWN. */
    interface Call {
        long on(SlotBuses x);
    }

    /** Makes an object and brings it to a state, the same one each time. */
    interface Maker {
        SlotBuses make();
    }

    /** So many probes go on one object, that it may be made by some 200 calls and still have less than 512. */
    private static final int AT_ONCE = 280;
    private static final List<String> NAMES = new ArrayList<>();
    private static final List<Call> PROBES = new ArrayList<>();

    static {
        ofTheRow();
        ofStations();
        ofWhatWas();
        ofTexts();
        ahead();
    }

    private Face() {
    }

    private static void add(String name, Call probe) {
        NAMES.add(name);
        PROBES.add(probe);
    }

    private static void ofTheRow() {
        for (int w = -1; w <= 11; w++) {
            int what = w;
            add("all(" + w + ")", x -> x.all(what));
            if (w <= 6) add("rule(" + w + ")", x -> x.rule(what));
            if (w <= 6) add("count(" + w + ")", x -> x.count(what));
            if (w <= 3) add("reserved(0, " + w + ")", x -> x.reserved(0, what));
            if (w <= 3) add("reserved(1, " + w + ")", x -> x.reserved(1, what));
            if (w <= 4) add("spread(" + w + ")", x -> x.spread(what));
            if (w <= 2) add("worst(" + w + ")", x -> x.worst(what));
            if (w <= 2) add("fair(3, " + w + ")", x -> x.fair(3, what));
        }
    }

    private static void ofStations() {
        for (int s = 0; s < 8; s++) {
            int station = s;
            for (int w = 0; w < 6; w++) {
                int what = w;
                add("station(" + s + ", " + w + ")", x -> x.station(station, what));
                if (w < 2) add("mean(" + s + ", " + w + ")", x -> x.mean(station, what));
                for (int k = 0; k < 6; k++) {
                    int bus = k / 3;
                    int level = k % 3;
                    add("line(" + s + ", " + bus + ", " + level + ", " + w + ")", x -> Check.line(x, station, bus, level, what));
                    if (w < 3) {
                        for (int i : new int[] {0, 1, 2, 8, 29}) {
                            add("waiting(" + s + ", " + bus + ", " + level + ", " + i + ", " + w + ")", x -> x.waiting(station, bus, level, i, what));
                        }
                    }
                    if (w < 4 && level == 0) add("hop(" + s + ", " + bus + ", " + w + ")", x -> x.hop(station, bus, what));
                }
            }
        }
    }

    private static void ofWhatWas() {
        for (int k = 0; k < 61; k++) {
            int i = k;
            for (int w = 0; w < 3; w++) {
                int what = w;
                add("log(" + i + ", " + w + ")", x -> x.log(i, what));
            }
            if (i <= 40) {
                for (int w = 0; w < 4; w++) {
                    int what = w;
                    add("arrival(" + i + ", " + w + ")", x -> x.arrival(i, what));
                }
            }
        }
    }

    private static void ofTexts() {
        add("fault(0)", x -> x.fault(0));
        add("fault(1)", x -> x.fault(1));
        for (int k = 0; k < 4 * 16 * 5; k++) {
            int script = k / 80;
            int i = k / 5 % 16;
            int what = k % 5;
            add("step(" + script + ", " + i + ", " + what + ")", x -> x.step(script, i, what));
        }
        for (int k = 0; k < 8; k++) {
            int script = k / 2;
            int what = k % 2;
            add("run(" + script + ", " + what + ")", x -> x.run(script, what));
        }
    }

    private static void ahead() {
        for (int n : new int[] {0, 1, 2, 5, 20, 200}) {
            for (int w = 0; w < 3; w++) {
                int what = w;
                add("ahead(" + n + ", " + w + ")", x -> x.ahead(n, what));
            }
            for (int s = 0; s < 8; s++) {
                int station = s;
                add("share(" + s + ", " + n + ")", x -> x.share(station, n));
            }
            add("gain(" + n + ", 0)", x -> x.gain(n, 0));
            add("gain(" + n + ", 1)", x -> x.gain(n, 1));
            add("hurt(0, 1, 2, " + n + ")", x -> x.hurt(0, 1, 2, n));
            add("hurt(1, 0, 3, " + n + ")", x -> x.hurt(1, 0, 3, n));
        }
        for (int k = 0; k <= 40; k++) {
            int number = k;
            add("when(" + k + ")", x -> x.when(number));
            add("next(" + k + ")", x -> x.next(number));
        }
        add("drained()", x -> x.drained());
        add("firstCome()", x -> x.firstCome() ? 1 : 0);
    }

    /** What the objects of a maker tell, but for STATUS. */
    static long[] told(Maker maker) {
        long[] answers = new long[PROBES.size()];
        SlotBuses x = null;
        for (int i = 0; i < answers.length; i++) {
            if (i % AT_ONCE == 0) {
                x = maker.make();
            }
            answers[i] = PROBES.get(i).on(x);
        }
        return answers;
    }

    /** What comes to light only by calls that change: what is UNDONE one by one, the IMAGE, the bytes of the TAPE. */
    static List<Long> hidden(Maker maker) {
        List<Long> answers = new ArrayList<>();
        SlotBuses x = maker.make();
        for (int i = 0; i < 41; i++) {
            answers.add((long) x.undo());
            for (int what : new int[] {0, 1, 4, 9}) answers.add((long) x.all(what));
            answers.add((long) x.rule(4) * 1000 + x.rule(5));
            answers.add((long) x.log(0, 1));
        }
        x = maker.make();
        answers.add((long) x.back());
        for (int what = 0; what < 11; what++) answers.add((long) x.all(what));
        for (int what = 0; what < 6; what++) answers.add((long) x.count(what));
        answers.add((long) x.undo());
        x = maker.make();
        for (int n = x.count(2) - 1; n >= 0; n -= 3) {
            x.end(n);
            answers.add((long) x.fault(0) * 1000 + x.fault(1));
        }
        x = maker.make();
        answers.add((long) x.text(0));
        answers.add((long) x.all(6));
        x = maker.make();
        answers.add((long) x.text(1));
        answers.add((long) x.come(0, 1, 0, 1));
        answers.add((long) x.tick(1));
        answers.add((long) x.years(9, 9));
        for (int what = 0; what < 11; what++) answers.add((long) x.all(what));
        for (int s = 0; s < 8; s++) {
            answers.add((long) x.mean(s, 0) * 1000 + x.mean(s, 1));
            for (int what = 0; what < 6; what++) answers.add((long) x.station(s, what));
        }
        addLines(maker.make(), answers);
        return answers;
    }

    /** One more comes to each LINE of LEVEL 0: how the LINES are then. */
    private static void addLines(SlotBuses x, List<Long> answers) {
        for (int s = 0; s < 8; s++) {
            answers.add((long) x.come(s, s - 1, 0, 1));
            answers.add((long) x.come(s, s + 1, 0, 1));
        }
        for (int s = 0; s < 8; s++) {
            for (int bus = 0; bus < 2; bus++) {
                int length = Math.min(12, Check.line(x, s, bus, 0, 0));
                for (int i = 0; i < length; i++) answers.add(x.waiting(s, bus, 0, i, 0) * 100L + x.waiting(s, bus, 0, i, 1));
            }
        }
    }

    static int probes() {
        return PROBES.size();
    }

    static String name(int probe) {
        return NAMES.get(probe);
    }
}
