import java.math.BigInteger;

/** The edges that part 4 of the Terms and promises 19 and 37 to 42 name: YEARS, RUN, DO, IMAGES, what is told of all. */
final class DoneEdges {
    private static final int NONE = SlotBuses.NONE;
    private static final int HIDDEN = SlotBuses.HIDDEN;
    private static final int MIN = Integer.MIN_VALUE;
    private static final int MAX = Integer.MAX_VALUE;
    private static final BigInteger ROUND = BigInteger.ONE.shiftLeft(64);
    private static final BigInteger TIMES = new BigInteger("6364136223846793005");
    private static final BigInteger AND = new BigInteger("1442695040888963407");

    private static BigInteger drawn = BigInteger.ZERO;

    private DoneEdges() {
    }

    static void all() {
        years();
        run();
        perform();
        refused();
        allTold();
        image();
        count();
    }

    private static void seed(long seed) {
        drawn = BigInteger.valueOf(seed).mod(ROUND);
    }

    private static int draw(int j) {
        drawn = drawn.multiply(TIMES).add(AND).mod(ROUND);
        return drawn.shiftRight(33).mod(BigInteger.valueOf(j)).intValue();
    }

    /** One year as calls, by draws of large numbers; which draw of 8 it was. */
    private static int year(SlotBuses y) {
        int sort = draw(8);
        switch (sort) {
            case 0: case 1: case 2: case 3:
                int from = draw(y.rule(0));
                int to = draw(y.rule(0));
                int level = draw(y.rule(3));
                y.come(from, to, level, draw(9) + 1);
                break;
            case 4: case 5:
                y.tick(draw(9) + 1);
                break;
            case 6:
                y.eraser(draw(y.rule(0)));
                break;
            default:
                int hop = draw(y.rule(0) - 1);
                if ((y.rule(5) >> hop & 1) == 0) y.cut(hop); else y.heal(hop);
                break;
        }
        return sort;
    }

    private static void alike(String what, SlotBuses x, SlotBuses y) {
        for (int k = 0; k < 11; k++) Doc.due(what + ", all(" + k + ")", x.all(k), y.all(k));
        Doc.due(what + ", ERASERS", x.rule(4), y.rule(4));
        Doc.due(what + ", CUT", x.rule(5), y.rule(5));
        Doc.due(what + ", ACTS", x.count(4), y.count(4));
        for (int i = 0; i < Math.min(3, y.count(3)); i++) {
            for (int k = 0; k < 3; k++) Doc.due(what + ", log(" + i + ", " + k + ")", x.log(i, k), y.log(i, k));
        }
    }

    private static void years() {
        Doc.says(0, "YEARS by a seed: n (1 .. 40) times: a draw of 8: 0 to 3: four draws, of STATIONS, of STATIONS, of LEVELS, of 9 and 1: FROM, TO, LEVEL, MANY come; "
            + "4, 5: a draw of 9 and 1: so many TICKS; 6: a draw of STATIONS: an ERASER, or none any more; 7: a draw of STATIONS less 1: that HOP is CUT, if it is not, "
            + "else HEALED.");
        int[] seen = new int[8];
        for (long seed = 0; seed < 120; seed++) {
            for (String text : new String[] {"sn2", "sn5l3", "sn8d2l2e255"}) {
                SlotBuses x = Check.row(text);
                SlotBuses y = Check.row(text);
                seed(seed);
                seen[year(y)]++;
                Doc.due("TIME", x.years(1, seed), y.all(0));
                alike("one by " + seed, x, y);
            }
        }
        for (int k = 0; k < 8; k++) Doc.due("each draw of 8 was there", seen[k] > 5, true);
        for (int n : new int[] {2, 39, 40}) {
            SlotBuses x = Check.row("sn3l2d1b1");
            SlotBuses y = Check.row("sn3l2d1b1");
            seed(77);
            for (int i = 0; i < n; i++) year(y);
            Doc.due(n + " times", x.years(n, 77), y.all(0));
            alike(n + " times", x, y);
        }
        Doc.says(0, "Each is an ACT; what can't be is left (no STATUS).");
        SlotBuses x = Check.row("sn2");
        SlotBuses y = Check.row("sn2");
        seed(5);
        for (int i = 0; i < 40; i++) year(y);
        x.years(40, 5);
        int left = y.status(0) + y.status(1) + y.status(2) + y.status(3);
        Doc.due("some can't be", left > 4, true);
        Doc.due("ACTS", x.count(3) * 100 + x.count(4), (40 - left) * 101);
        Doc.due("no STATUS", x.status(0) + x.status(1) + x.status(2) + x.status(3), 0);
        int log = x.count(3);
        int time = x.all(0);
        Doc.due("one is UNDONE, not all", x.undo() * 100 + x.count(3), (39 - left) * 100 + log - 1);
        while (x.undo() > 0) Doc.due("TIME is no more", x.all(0) <= time, true);
        Doc.due("as at first", x.all(0) * 1000 + x.all(1) * 100 + x.rule(4) * 10 + x.rule(5), 0);
        atTimesEnd();
        Doc.says(0, "x, at first the seed, becomes x times 6364136223846793005 and 1442695040888963407 (64 bits, going round); a draw of j: (x shifted right by 33, without "
            + "sign) modulo j.");
        for (long seed : new long[] {0, 1, -1, Long.MIN_VALUE, Long.MIN_VALUE + 1, Long.MAX_VALUE, 1L << 32, 1L << 33, -(1L << 33), 6364136223846793005L}) {
            x = Check.row("sn7l3");
            y = Check.row("sn7l3");
            seed(seed);
            for (int i = 0; i < 20; i++) year(y);
            Doc.due("seed " + seed, x.years(20, seed), y.all(0));
            alike("seed " + seed, x, y);
        }
        Doc.says(19, "YEARS: TIME. NONE: no ROW, out of bounds.");
        for (int n : new int[] {0, 41, -1, MIN, MAX}) Doc.due("years(" + n + ")", Check.row("s").years(n, 1), NONE);
        for (int n : new int[] {1, 40}) Doc.due("years(" + n + ")", Check.row("s").years(n, 1) == NONE, false);
        for (int n : new int[] {0, 1, 40, 41}) Doc.due("no ROW", new SlotBuses().years(n, 1), NONE);
    }

    /** TICKS that would go beyond TIME's end are left, others are not. */
    private static void atTimesEnd() {
        SlotBuses x = Check.row("sn2");
        SlotBuses y = Check.row("sn2");
        for (int i = 0; i < 166; i++) {
            x.tick(60);
            y.tick(60);
        }
        x.tick(30);
        y.tick(30);
        seed(9);
        for (int i = 0; i < 40; i++) year(y);
        Doc.due("TIME at its end", x.years(40, 9), y.all(0));
        Doc.due("TICKS can't be then", y.status(3) > 0, true);
        alike("at TIME's end", x, y);
    }

    private static void run() {
        Doc.says(0, "RUN of a SCRIPT: behind how many STEPS the first is that can't be; how many wait behind these.");
        SlotBuses x = Check.row("sn3");
        Check.script(x, "q0,1,0,9;q0,1,0,9;q0,1,0,9;q0,1,0,3;q0,1,0,1;t60");
        Doc.due("a 31st", x.run(0, 0) * 100 + x.run(0, 1), 430);
        String[] cant = {"t0", "t61", "t99", "c2", "c9", "h0", "e3", "w0,1", "w0,0", "w3,0", "r2,0,2", "r0,3,2", "r0,0,1", "r0,0,0", "q0,0,0,1", "q0,3,0,1", "q3,0,0,1",
            "q0,1,1,1", "q0,1,0,0"};
        for (String step : cant) {
            x = Check.row("sn3");
            Check.script(x, step);
            Check.script(x, "q0,2,0,1;" + step + ";t1");
            Doc.due(step + " can't be", x.run(0, 0) * 10 + x.run(0, 1), 0);
            Doc.due(step + " can't be behind another one", x.run(1, 0) * 10 + x.run(1, 1), 11);
        }
        String[] can = {"t1", "t60", "c0", "c1", "c1;h1", "e0", "e2", "e2;e2", "q0,2,0,2;w0,2", "r0,0,2", "r1,2,9", "r0,0,2;r0,0,0", "q0,2,0,1", "q2,0,0,9"};
        for (String step : can) {
            x = Check.row("sn3");
            Check.script(x, step);
            Doc.due(step + " can be", x.run(0, 0), NONE);
        }
        Doc.says(37, "RUN: behind how many (0; NONE: all can be), waiting ones (1). HIDDEN: no such SCRIPT, no ROW, no such what.");
        x = new SlotBuses();
        Check.script(x, "t1");
        Doc.due("no ROW", x.run(0, 0) + x.run(0, 1), 2 * HIDDEN);
        Check.again(x, "sn2;qm3");
        Doc.due("all can be", x.run(0, 0) * 10 + x.run(0, 1), 10 * NONE + 2);
        for (int script : new int[] {-1, 1, 4, MIN, MAX}) Doc.due("SCRIPT " + script, x.run(script, 0), HIDDEN);
        for (int what : new int[] {-1, 2, MIN, MAX}) Doc.due("what " + what, x.run(0, what), HIDDEN);
        for (int i = 1; i < 4; i++) Check.script(x, "t" + i);
        Doc.due("the last SCRIPT", x.run(3, 1) * 10 + (x.run(4, 1) == HIDDEN ? 1 : 0), 1);
        Doc.due("apart", x.all(0) * 10 + x.count(3), 0);
    }

    private static void perform() {
        Doc.says(0, "DO: its STEPS as ACTS, up to there (no STATUS).");
        SlotBuses x = Check.row("sn3");
        Check.script(x, "q0,2,0,3;t1;c0;c0;t1");
        Doc.due("three", x.perform(0), 3);
        Doc.due("as ACTS", x.count(3) * 10 + x.count(4), 33);
        int[][] log = {{2, 0, 2}, {1, 1, 2}, {0, 0, 3}};
        for (int i = 0; i < 3; i++) for (int what = 0; what < 3; what++) Doc.due("log(" + i + ", " + what + ")", x.log(i, what), log[i][what]);
        Doc.due("no STATUS", x.status(0) + x.status(1) + x.status(2) + x.status(3), 0);
        Doc.due("what stands behind is left", x.all(0) * 10 + x.rule(5), 11);
        Doc.due("UNDONE one by one", x.undo() * 10 + x.rule(5), 20);
        x = Check.row("sn2");
        Check.script(x, "t1;e0;t1;e0;t1;e0;t1;e0;t1;e0;t1;e0;t1;e0;t1;e0");
        for (int i = 0; i < 4; i++) Doc.due("16 STEPS", x.perform(0), 16);
        Doc.due("the latest 60, the latest 40", x.count(3) * 100 + x.count(4), 6040);
        x = Check.row("sn3");
        Check.script(x, "t1;e0;t2;e1;c0");
        Check.script(x, "e2;t3");
        Doc.due("a short SCRIPT behind a longer one", x.run(1, 0) * 100 + x.perform(1) * 10 + x.count(3), 100 * NONE + 22);
        Doc.due("its STEPS alone", x.rule(4) * 100 + x.rule(5) * 10 + x.all(0), 403);
        Doc.says(38, "DO: how many STEPS were done. NONE: no such SCRIPT, no ROW.");
        Check.script(x, "t0");
        Doc.due("none", x.perform(2), 0);
        Doc.due("a fourth one is none yet", x.perform(3), NONE);
        Check.script(x, "e1");
        Doc.due("one, all", x.perform(3), 1);
        for (int script : new int[] {-1, 4, MIN, MAX}) Doc.due("SCRIPT " + script, x.perform(script), NONE);
        x = new SlotBuses();
        Check.script(x, "t1");
        Doc.due("no ROW", x.perform(0), NONE);
        Doc.due("no SCRIPT", Check.row("s").perform(0), NONE);
    }

    /** A sample; RefusedTest looks at all that a refused call could have changed. */
    private static void refused() {
        Doc.says(0, "What is refused answers as told and changes nothing but STATUS.");
        SlotBuses x = Check.row("sn3d1;qf0t2m3");
        x.tick(1);
        int[] was = new int[11];
        for (int what = 0; what < 11; what++) was[what] = x.all(what);
        x.come(0, 0, 0, 1);
        x.tick(61);
        x.cut(5);
        x.heal(0);
        x.eraser(3);
        x.withdraw(1, 2);
        x.reserve(0, 0, 1);
        x.years(0, 1);
        x.perform(0);
        for (int what = 0; what < 11; what++) Doc.due("all(" + what + ")", x.all(what), was[what]);
        Doc.due("ACTS", x.count(3) * 10 + x.count(4), 11);
        Doc.due("STATUS", x.status(0) * 1000 + x.status(1) * 100 + x.status(2) * 10 + x.status(3), 2230);
    }

    private static void allTold() {
        Doc.says(39, "TIME (0), waiting (1), under way (2: in SLOTS, not READ), DELIVERED (3), LOST (4), the sum of all WAITS (5), SEGMENTS numbered (6), the STATION with "
            + "most that wait (7; of several the lowest), ACTIVE ones (8), OWED of all (9), SLOTS that were emptied by ERASERS (10).");
        told("at first", Check.row("sn8l3"), 0, 0, 0, 0, 0, 0, 0, 0, 0, 0, 0);
        SlotBuses x = Check.row("sn4d1e8l2;qf0t1;qf0t3m2;qf2t0;qf3t2l1;qf3t0");
        told("nothing yet", x, 0, 6, 0, 0, 0, 0, 6, 0, 4, 4, 0);
        x.tick(1);
        // 1 and 5 are in SLOTS; 2 is ACTIVE, 6 counts the ask of 5 when 3 asks, which it does not yet: no SLOT came to 3 by BUS 0.
        told("one TICK", x, 1, 4, 2, 0, 0, 0, 6, 0, 3, 5, 0);
        x = Check.row("sn3d3;qf0t1;qf1t2");
        x.tick(4);
        Doc.due("READ is not under way", x.hop(1, 0, 1) * 10 + x.all(2), 10);
        x = Check.row("sn2;qm5;qf1t0m3");
        x.tick(9);
        Doc.due("the sum of all WAITS", x.all(5), 0 + 1 + 2 + 3 + 4 + 0 + 1 + 2);
        for (int s = 0; s < 8; s++) {
            x = Check.row("sn8");
            for (int k = 0; k < 8; k++) x.come(k, 7 - k, 0, k == s ? 2 : 1);
            Doc.due("most wait at " + s, x.all(7), s);
        }
        x = Check.row("sn8;qf3t0m2;qf5t0m3;qf7t0m3");
        Doc.due("of several the lowest", x.all(7), 5);
        x.come(7, 0, 0, 1);
        Doc.due("the most", x.all(7), 7);
        x = Check.row("sn8l3");
        for (int s = 0; s < 8; s++) {
            for (int l = 0; l < 3; l++) {
                if (s < 7) x.come(s, 7, l, 2);
                if (s > 0) x.come(s, 0, l, 2);
            }
        }
        Doc.due("ACTIVE and OWED of all LINES", x.all(8) * 100 + x.all(9), 4242);
        Doc.says(39, "HIDDEN: no ROW, no such what.");
        for (int what = 0; what < 11; what++) Doc.due("no ROW", new SlotBuses().all(what), HIDDEN);
        for (int what : new int[] {-1, 11, MIN, MAX}) Doc.due("all(" + what + ")", x.all(what), HIDDEN);
    }

    private static void told(String what, SlotBuses x, int... want) {
        for (int k = 0; k < 11; k++) Doc.due(what + ", all(" + k + ")", x.all(k), want[k]);
    }

    private static void image() {
        Doc.says(0, "An IMAGE keeps all that ACTS change; BACK: it is so again (no ACT can be UNDONE then).");
        SlotBuses x = Check.row("sn4d2l2b2e1;qf0t3m5;qf3t0l1m5");
        x.reserve(0, 2, 3);
        x.tick(4);
        x.cut(1);
        x.image();
        Face.Maker was = () -> {
            SlotBuses y = Check.row("sn4d2l2b2e1;qf0t3m5;qf3t0l1m5");
            y.reserve(0, 2, 3);
            y.tick(4);
            y.cut(1);
            y.image();
            y.back();
            return y;
        };
        Face.Maker is = () -> {
            SlotBuses y = Check.row("sn4d2l2b2e1;qf0t3m5;qf3t0l1m5");
            y.reserve(0, 2, 3);
            y.tick(4);
            y.cut(1);
            y.image();
            y.come(1, 2, 1, 9);
            y.heal(1);
            y.eraser(0);
            y.eraser(3);
            y.withdraw(1, 2);
            y.reserve(0, 2, 0);
            y.reserve(1, 1, 2);
            y.tick(9);
            y.back();
            return y;
        };
        Lived.alike("BACK", is, was);
        for (int i = 0; i < Lived.SEEDS; i++) {
            int seed = i;
            Lived.alike("BACK, seed " + seed, () -> {
                SlotBuses y = Lived.row(seed);
                y.image();
                y.years(20, seed + 7);
                y.reserve(0, 0, 9);
                y.withdraw(0, 1);
                y.tick(20);
                y.back();
                return y;
            }, () -> {
                SlotBuses y = Lived.row(seed);
                y.image();
                y.back();
                return y;
            });
        }
        x.tick(3);
        Doc.due("ACTS ahead of the IMAGE and behind it", x.count(4), 4);
        x.back();
        Doc.due("no ACT can be UNDONE", x.count(4) * 10 + x.undo(), NONE);
        x.tick(1);
        Doc.due("but those behind BACK", x.undo(), 0);
        Doc.due("TIME", x.all(0), 4);
        x.come(9, 9, 9, 9);
        Check.script(x, "t1");
        Check.feed(x, "abc");
        x.back();
        Doc.due("STATUS, SCRIPTS, the TAPE stay", x.status(0) * 100 + x.count(1) * 10 + x.count(2), 113);
        Doc.says(40, "An IMAGE (instead of the one ahead): TIME. NONE: no ROW.");
        Doc.due("no ROW", new SlotBuses().image(), NONE);
        x = Check.row("sn2");
        Doc.due("TIME 0", x.image(), 0);
        x.tick(7);
        Doc.due("TIME 7", x.image(), 7);
        x.tick(5);
        Doc.due("instead of the one ahead", x.back(), 7);
        Doc.due("again", x.back(), 7);
        x.undo();
        Doc.due("it is no ACT", x.count(4) * 10 + x.count(3), 1);
        Doc.says(41, "BACK: TIME. NONE: no IMAGE of this ROW.");
        Doc.due("no ROW", new SlotBuses().back(), NONE);
        Doc.due("no IMAGE", Check.row("s").back(), NONE);
        x.tick(60);
        Doc.due("TIME 7", x.back() * 10 + x.all(0), 77);
        Doc.due("a text with a FAULT is no ROW", Check.again(x, "sn9") * 10 + x.back(), 10 * NONE + 7);
        Check.again(x, "sn2");
        Doc.due("of another ROW", x.back(), NONE);
        Doc.due("nothing changes by that", x.all(0) * 10 + x.count(0), 2);
        x.image();
        Doc.due("of this one", x.back(), 0);
    }

    private static void count() {
        Doc.says(42, "0 STATIONS, 1 SCRIPTS, 2 bytes of the TAPE, 3 how long the LOG is, 4 ACTS that can be UNDONE, 5 how many ARRIVALS are told.");
        SlotBuses x = new SlotBuses();
        for (int what = 0; what < 6; what++) Doc.due("at first, count(" + what + ")", x.count(what), 0);
        Check.again(x, "sn8");
        Check.script(x, "t1");
        Check.feed(x, "a".repeat(240));
        for (int i = 0; i < 45; i++) {
            x.come(0, 7, 0, 1);
            x.tick(1);
        }
        int[] want = {8, 1, 240, 60, 40, 40};
        for (int what = 0; what < 6; what++) Doc.due("full, count(" + what + ")", x.count(what), want[what]);
        for (int i = 0; i < 40; i++) x.undo();
        int[] then = {8, 1, 240, 50, 0, 25};
        for (int what = 0; what < 6; what++) Doc.due("40 UNDONE, count(" + what + ")", x.count(what), then[what]);
        Doc.says(42, "HIDDEN for others.");
        for (int what : new int[] {-1, 6, MIN, MAX}) {
            Doc.due("count(" + what + ")", x.count(what), HIDDEN);
            Doc.due("no ROW, count(" + what + ")", new SlotBuses().count(what), HIDDEN);
        }
    }
}
