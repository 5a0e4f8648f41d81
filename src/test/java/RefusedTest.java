import java.util.ArrayList;
import java.util.Arrays;
import java.util.List;

/** "What is refused answers as told and changes nothing but STATUS", and what is told apart changes nothing at all. */
public final class RefusedTest {
    private static final int NONE = SlotBuses.NONE;
    private static final int HIDDEN = SlotBuses.HIDDEN;
    private static final int[] FAR_OUT = {Integer.MIN_VALUE, Integer.MAX_VALUE};
    /** Of a call that is not refused. */
    private static final int ANY = 1234567;
    private static final int NO_STATUS = -1;
    private static final int AT_ONCE = 12;

    private final String name;
    private final Face.Maker maker;
    private final long[] told;
    private final List<Long> hidden;
    private final List<String> labels = new ArrayList<>();
    private final List<Face.Call> calls = new ArrayList<>();
    private final List<Long> answers = new ArrayList<>();
    private final List<Integer> sorts = new ArrayList<>();

    private RefusedTest(String name, Face.Maker maker) {
        this.name = name;
        this.maker = maker;
        told = Face.told(maker);
        hidden = Face.hidden(maker);
    }

    private static SlotBuses withTexts(SlotBuses x) {
        Check.script(x, "q0,1,0,3;t2;c1;h1;e0;w0,1;r0,1,2");
        Check.script(x, "t0;t1");
        return x;
    }

    private static SlotBuses withoutRow() {
        SlotBuses x = withTexts(new SlotBuses());
        Check.feed(x, "sn4;x");
        return x;
    }

    /** Something of everything: five STATIONS, two LEVELS, HOP 2 CUT, 3 is an ERASER, both BUSES have RESERVED. */
    private static SlotBuses inUse() {
        SlotBuses x = withTexts(new SlotBuses());
        Check.again(x, "sn5d2b2l2e4;qf0t4m6;qf4t0l1m5;qf2t4m2");
        x.tick(3);
        x.come(1, 3, 1, 4);
        x.reserve(0, 2, 3);
        x.reserve(1, 1, 2);
        x.tick(4);
        x.cut(2);
        x.eraser(2);
        x.eraser(3);
        x.image();
        x.come(3, 0, 0, 3);
        x.tick(2);
        x.withdraw(3, 0);
        x.come(9, 9, 9, 9);
        x.tick(0);
        x.heal(0);
        x.come(4, 3, 0, 9);
        x.come(0, 2, 1, 3);
        x.tick(3);
        Check.feed(x, "sn4;qf1t");
        return x;
    }

    /** TIME 9,999, 30 at each of eight STATIONS, 40 to be UNDONE, 60 in the LOG, 40 ARRIVALS, four SCRIPTS, 240 bytes. */
    private static SlotBuses full() {
        SlotBuses x = withTexts(new SlotBuses());
        Check.script(x, "h0");
        Check.script(x, "q0,1,0,1;t1");
        Check.again(x, "sn8l3b9d3e255;qm9;qf7t0m9;qf3t4m9;qf4t3m9;qf2t7m9");
        x.reserve(0, 7, 9);
        for (int i = 0; i < 166; i++) x.tick(60);
        x.tick(34);
        x.image();
        for (int s = 0; s < 8; s++) {
            for (int k = 0; k < 4; k++) x.come(s, s < 4 ? 7 : 0, k % 3, k < 3 ? 9 : 3);
        }
        x.tick(5);
        for (int s = 0; s < 8; s++) {
            int room = 30 - x.station(s, 0);
            if (room > 0) x.come(s, s < 4 ? 7 : 0, 0, room);
        }
        Check.feed(x, "s" + " ".repeat(239));
        return x;
    }

    private void refused(String what, Face.Call call, long answer, int sort) {
        labels.add(name + ", " + what);
        calls.add(call);
        answers.add(answer);
        sorts.add(sort);
        if (calls.size() == AT_ONCE) flush();
    }

    /** Some calls, one behind the other, on one object, and what it tells then; one by one if that is not as it was. */
    private void flush() {
        SlotBuses x = maker.make();
        for (int i = 0; i < calls.size(); i++) {
            int[] was = new int[4];
            for (int k = 0; k < 4; k++) was[k] = x.status(k);
            long got = calls.get(i).on(x);
            if (answers.get(i) != ANY) Check.due(labels.get(i), got, answers.get(i));
            for (int k = 0; k < 4; k++) Check.due(labels.get(i) + ": status(" + k + ")", x.status(k), was[k] + (k == sorts.get(i) ? 1 : 0));
        }
        if (!isAsItWas(0, calls.size())) {
            for (int i = 0; i < calls.size(); i++) Check.due(labels.get(i) + " changed nothing", isAsItWas(i, i + 1), true);
        }
        labels.clear();
        calls.clear();
        answers.clear();
        sorts.clear();
    }

    private boolean isAsItWas(int from, int to) {
        Face.Maker after = () -> {
            SlotBuses z = maker.make();
            for (int i = from; i < to; i++) calls.get(i).on(z);
            return z;
        };
        long[] now = Face.told(after);
        for (int i = 0; i < now.length; i++) {
            if (now[i] != told[i]) System.out.println(Face.name(i) + " answered " + now[i] + ", ahead of that " + told[i]);
        }
        boolean same = Arrays.equals(now, told) && Face.hidden(after).equals(hidden);
        Check.due(labels.get(from) + " .. changed nothing", same, true);
        return same;
    }

    private void none(String what, Face.Call call) {
        refused(what, call, NONE, NO_STATUS);
    }

    private void hidden(String what, Face.Call call) {
        refused(what, call, HIDDEN, NO_STATUS);
    }

    private static int[] beside(int least, int most) {
        return new int[] {least - 1, most + 1, FAR_OUT[0], FAR_OUT[1]};
    }

    /** What every state refuses; without a ROW: of no STATIONS. */
    private void always(int stations) {
        for (int s : beside(0, stations - 1)) {
            refused("come from " + s, x -> x.come(s, 0, 0, 1), NONE, 0);
            refused("come to " + s, x -> x.come(0, s, 0, 1), NONE, 0);
            refused("eraser(" + s + ")", x -> x.eraser(s), NONE, 0);
            refused("withdraw from " + s, x -> x.withdraw(s, 0), NONE, 0);
            refused("withdraw to " + s, x -> x.withdraw(0, s), NONE, 0);
            refused("reserve for " + s, x -> x.reserve(0, s, 2), NONE, 0);
            none("share of " + s, x -> x.share(s, 1));
            none("station " + s, x -> x.station(s, 0));
            none("mean of " + s, x -> x.mean(s, 0));
            hidden("hurt by " + s, x -> x.hurt(0, s, 4, 1));
            none("waiting at " + s, x -> x.waiting(s, 0, 0, 0, 0));
            refused("line at " + s, x -> Check.line(x, s, 0, 0, 0), Check.THROWN, NO_STATUS);
        }
        for (int hop : beside(0, stations - 2)) {
            refused("cut(" + hop + ")", x -> x.cut(hop), NONE, 0);
            refused("heal(" + hop + ")", x -> x.heal(hop), NONE, 0);
            none("hop " + hop, x -> x.hop(hop, 0, 0));
        }
        for (int n : beside(1, 40)) none("years(" + n + ")", x -> x.years(n, 1));
        for (int n : beside(0, 200)) none("ahead(" + n + ")", x -> x.ahead(n, 0));
        for (int n : beside(1, 200)) {
            none("share, " + n, x -> x.share(0, n));
            none("gain, " + n, x -> x.gain(n, 0));
            hidden("hurt, " + n, x -> x.hurt(0, 0, 4, n));
        }
        for (int m : beside(1, 99)) none("fair(" + m + ")", x -> x.fair(m, 0));
        for (int sort : beside(0, 1)) {
            none("text(" + sort + ")", x -> x.text(sort));
            refused("fault(" + sort + ")", x -> x.fault(sort), -2, NO_STATUS);
            none("worst(" + sort + ")", x -> x.worst(sort));
            none("mean, " + sort, x -> x.mean(0, sort));
            hidden("run, " + sort, x -> x.run(0, sort));
        }
        for (int what : beside(0, 10)) hidden("all(" + what + ")", x -> x.all(what));
        for (int what : beside(0, 5)) hidden("count(" + what + ")", x -> x.count(what));
        for (int what : beside(0, 5)) none("rule(" + what + ")", x -> x.rule(what));
        for (int what : beside(0, 3)) none("status(" + what + ")", x -> x.status(what));
        for (int what : beside(0, 3)) none("spread(" + what + ")", x -> x.spread(what));
        for (int what : beside(0, 2)) none("reserved, " + what, x -> x.reserved(0, what));
        for (int i : beside(0, 59)) hidden("log(" + i + ")", x -> x.log(i, 0));
        for (int i : beside(0, 39)) none("arrival(" + i + ")", x -> x.arrival(i, 0));
        for (int script : beside(0, 3)) {
            hidden("step of " + script, x -> x.step(script, 0, 0));
            hidden("run of " + script, x -> x.run(script, 0));
            none("perform(" + script + ")", x -> x.perform(script));
        }
        for (int n : beside(0, maker.make().count(2))) refused("end(" + n + ")", x -> x.end(n) ? 1 : 0, 0, NO_STATUS);
        for (int number : new int[] {0, -1, 999, FAR_OUT[0], FAR_OUT[1]}) none("when(" + number + ")", x -> x.when(number));
        for (int i : new int[] {-1, 999, FAR_OUT[0], FAR_OUT[1]}) none("next(" + i + ")", x -> x.next(i));
    }

    /** What a ROW refuses besides. */
    private void withRow(int stations, int levels) {
        for (int level : beside(0, levels - 1)) refused("come, LEVEL " + level, x -> x.come(0, 1, level, 1), NONE, 1);
        for (int many : beside(1, 9)) refused("come, MANY " + many, x -> x.come(0, 1, 0, many), NONE, 1);
        for (int s = 0; s < stations; s++) {
            int station = s;
            refused("come to itself", x -> x.come(station, station, 0, 9), NONE, 2);
            refused("withdraw to itself", x -> x.withdraw(station, station), NONE, 2);
        }
        for (int n : beside(1, 60)) refused("tick(" + n + ")", x -> x.tick(n), NONE, 1);
        for (int bus : beside(0, 1)) {
            refused("reserve of BUS " + bus, x -> x.reserve(bus, 0, 2), NONE, 1);
            hidden("hurt of BUS " + bus, x -> x.hurt(bus, 0, 2, 1));
            none("reserved of BUS " + bus, x -> x.reserved(bus, 0));
            none("hop of BUS " + bus, x -> x.hop(0, bus, 0));
            none("waiting of BUS " + bus, x -> x.waiting(0, bus, 0, 0, 0));
            refused("line of BUS " + bus, x -> Check.line(x, 0, bus, 0, 0), Check.THROWN, NO_STATUS);
        }
        for (int every : new int[] {1, -1, 10, FAR_OUT[0], FAR_OUT[1]}) {
            refused("reserve, EVERY " + every, x -> x.reserve(0, 0, every), NONE, 1);
            hidden("hurt, EVERY " + every, x -> x.hurt(0, 0, every, 1));
        }
    }

    /** Told apart: it changes nothing. */
    private void apart() {
        for (int n : new int[] {0, 1, 7, 200}) {
            refused("ahead(" + n + ")", x -> x.ahead(n, 0), ANY, NO_STATUS);
            refused("share, " + n, x -> x.share(0, n), ANY, NO_STATUS);
            refused("gain, " + n, x -> x.gain(n, 1), ANY, NO_STATUS);
            refused("hurt, " + n, x -> x.hurt(0, 1, 4, n), ANY, NO_STATUS);
            refused("when(" + n + ")", x -> x.when(n), ANY, NO_STATUS);
            refused("next(" + n + ")", x -> x.next(n), ANY, NO_STATUS);
        }
        for (int k = 0; k < 4; k++) {
            int what = k;
            refused("run(" + k + ")", x -> x.run(what, 1), ANY, NO_STATUS);
            refused("spread(" + k + ")", x -> x.spread(what), ANY, NO_STATUS);
            refused("worst(" + k + ")", x -> x.worst(what), ANY, NO_STATUS);
            refused("mean(" + k + ")", x -> x.mean(what, 0), ANY, NO_STATUS);
        }
        refused("drained()", x -> x.drained(), ANY, NO_STATUS);
        refused("firstCome()", x -> x.firstCome() ? 1 : 0, ANY, NO_STATUS);
        refused("fault(0)", x -> x.fault(0), ANY, NO_STATUS);
        refused("fault(1)", x -> x.fault(1), ANY, NO_STATUS);
    }

    private static void noRow() {
        RefusedTest t = new RefusedTest("no ROW", RefusedTest::withoutRow);
        t.always(0);
        t.apart();
        t.refused("tick(1)", x -> x.tick(1), NONE, 0);
        t.refused("come(0, 1, 0, 1)", x -> x.come(0, 1, 0, 1), NONE, 0);
        t.refused("cut(0)", x -> x.cut(0), NONE, 0);
        t.refused("reserve(0, 0, 0)", x -> x.reserve(0, 0, 0), NONE, 0);
        t.none("text(0) of a fault", x -> x.text(0));
        t.none("text(1) of a fault", x -> x.text(1));
        t.none("years(1, 1)", x -> x.years(1, 1));
        t.none("undo()", x -> x.undo());
        t.none("image()", x -> x.image());
        t.none("back()", x -> x.back());
        t.none("perform(0)", x -> x.perform(0));
        t.hidden("run(0, 0)", x -> x.run(0, 0));
        t.hidden("hurt(0, 0, 2, 1)", x -> x.hurt(0, 0, 2, 1));
        t.flush();
    }

    private static void someRow() {
        RefusedTest t = new RefusedTest("in use", RefusedTest::inUse);
        SlotBuses made = inUse();
        Check.due("in use: under way, LOST, DELIVERED, waiting", made.all(2) > 0 && made.all(4) > 0 && made.all(3) > 0 && made.all(1) > 9, true);
        Check.due("in use: ACTS that can be UNDONE, RESERVED SLOTS on the way", made.count(4) > 9 && made.hop(0, 0, 3) > 0, true);
        t.always(5);
        t.withRow(5, 2);
        t.apart();
        t.refused("cut(2)", x -> x.cut(2), NONE, 2);
        t.refused("heal(1)", x -> x.heal(1), NONE, 2);
        t.refused("withdraw(2, 0)", x -> x.withdraw(2, 0), NONE, 2);
        t.refused("reserve(0, 2, 3)", x -> x.reserve(0, 2, 3), NONE, 2);
        t.refused("reserve(1, 1, 2)", x -> x.reserve(1, 1, 2), NONE, 2);
        t.hidden("hurt as it is", x -> x.hurt(0, 2, 3, 5));
        t.none("text(0) of a fault", x -> x.text(0));
        t.none("text(1) of a fault", x -> x.text(1));
        t.none("perform(2)", x -> x.perform(2));
        t.refused("perform(1): its first STEP can't be", x -> x.perform(1), 0, NO_STATUS);
        t.refused("text(0) and a second try", x -> x.text(0) + x.text(0), 2 * NONE, NO_STATUS);
        t.flush();
    }

    private static void fullRow() {
        RefusedTest t = new RefusedTest("full", RefusedTest::full);
        SlotBuses made = full();
        Check.due("full: TIME, waiting", made.all(0) * 1000 + made.all(1), 9999240);
        Check.due("full: SCRIPTS, bytes", made.count(1) * 1000 + made.count(2), 4240);
        Check.due("full: LOG, UNDONE, ARRIVALS", made.count(3) * 10000 + made.count(4) * 100 + made.count(5), 604040);
        t.always(8);
        t.withRow(8, 3);
        t.apart();
        for (int n : new int[] {1, 2, 60}) t.refused("tick(" + n + ") at TIME's end", x -> x.tick(n), NONE, 3);
        for (int s = 0; s < 8; s++) {
            int station = s;
            t.refused("a 31st at " + s, x -> x.come(station, 7 - station, 2, 1), NONE, 3);
        }
        t.refused("reserve(1, 0, 0)", x -> x.reserve(1, 0, 0), NONE, 2);
        for (int n : new int[] {1, 200}) {
            t.none("ahead at TIME's end", x -> x.ahead(n, 0));
            t.none("share at TIME's end", x -> x.share(0, n));
            t.none("gain at TIME's end", x -> x.gain(n, 0));
            t.hidden("hurt at TIME's end", x -> x.hurt(0, 0, 2, n));
        }
        t.none("feed of one", x -> x.feed(0, 0, 0, 0, ' '));
        t.none("feed of twenty", x -> x.feed(-1, -1, -1, -1, -1));
        t.refused("feed of none", x -> x.feed(0, 0, 0, 0, 0), 240, NO_STATUS);
        t.refused("end(240)", x -> x.end(240) ? 1 : 0, 1, NO_STATUS);
        t.none("a fifth SCRIPT", x -> x.text(1));
        t.refused("perform(2): no HOP is CUT", x -> x.perform(2), 0, NO_STATUS);
        t.refused("perform(3): a 31st", x -> x.perform(3), 0, NO_STATUS);
        t.refused("years(1, ..): TICKS", x -> x.years(1, seedOf(4)), 9999, NO_STATUS);
        t.refused("years(1, ..): they come", x -> x.years(1, seedOf(0)), 9999, NO_STATUS);
        t.flush();
    }

    /** A seed whose first draw of 8 is that. */
    private static long seedOf(int draw) {
        long seed = 0;
        while ((seed * 6364136223846793005L + 1442695040888963407L >>> 33) % 8 != draw) seed++;
        return seed;
    }

    /** A SCRIPT that has no fault, but for which there is no room: it stays on the TAPE. */
    private static void fifthScript() {
        RefusedTest t = new RefusedTest("four SCRIPTS", () -> {
            SlotBuses x = withTexts(withTexts(new SlotBuses()));
            Check.again(x, "sn3;qf0t2");
            Check.feed(x, "t1;c0");
            return x;
        });
        t.none("text(1)", x -> x.text(1));
        t.none("text(0)", x -> x.text(0));
        t.none("back()", x -> x.back());
        t.none("undo()", x -> x.undo());
        t.flush();
    }

    public static void main(String[] args) {
        noRow();
        someRow();
        fullRow();
        fifthScript();
        System.out.println(Face.probes() + " probes behind each refused call");
        Check.finish();
    }
}
