import java.util.ArrayList;
import java.util.List;

/** The edges that part 3 of the Terms and promises 20 to 35 name: what was, and what is ahead. */
final class LookEdges {
    private static final int NONE = SlotBuses.NONE;
    private static final int HIDDEN = SlotBuses.HIDDEN;
    private static final int MIN = Integer.MIN_VALUE;
    private static final int MAX = Integer.MAX_VALUE;

    private LookEdges() {
    }

    static void all() {
        status();
        undo();
        log();
        arrival();
        ahead();
        whenAndNext();
        drained();
        share();
        fair();
        firstCome();
        worst();
        gain();
        spread();
        mean();
        hurt();
    }

    private static SlotBuses at(String text, int time) {
        SlotBuses x = Check.row(text);
        for (int i = 0; i < time / 60; i++) x.tick(60);
        if (time % 60 > 0) x.tick(time % 60);
        return x;
    }

    private static void status() {
        Doc.says(20, "STATUS. NONE: no such what.");
        SlotBuses x = new SlotBuses();
        for (int what = 0; what < 4; what++) Doc.due("status(" + what + ") at first", x.status(what), 0);
        for (int what : new int[] {-1, 4, MIN, MAX}) Doc.due("status(" + what + ")", x.status(what), NONE);
        for (int i = 0; i < 300; i++) x.tick(1);
        Doc.due("each counts", x.status(0), 300);
    }

    private static void undo() {
        Doc.says(21, "The latest ACT is UNDONE: how many still can be. NONE: none.");
        SlotBuses x = new SlotBuses();
        Doc.due("no ROW", x.undo(), NONE);
        Check.again(x, "sn2;qm3");
        Doc.due("what its q tell are no ACTS", x.undo(), NONE);
        x.tick(1);
        x.tick(61);
        Doc.due("one", x.undo(), 0);
        Doc.due("none", x.undo(), NONE);
        Doc.due("nothing changes by that", x.all(0) * 10 + x.all(1), 3);
        for (int i = 0; i < 41; i++) x.eraser(0);
        for (int i = 39; i >= 0; i--) Doc.due("one by one", x.undo() * 10 + x.rule(4), 10 * i + (i % 2 == 0 ? 1 : 0));
        Doc.due("the 41st", x.undo() * 10 + x.rule(4), 10 * NONE + 1);
    }

    private static void log() {
        Doc.says(22, "The LOG, the latest (i 0), the one ahead of it (1) ..: 0 sort, 1 number, 2 how many wait. HIDDEN: no such ones.");
        SlotBuses x = new SlotBuses();
        for (int what = 0; what < 3; what++) Doc.due("no ROW", x.log(0, what), HIDDEN);
        Check.again(x, "sn2;qm3");
        Doc.due("none", x.log(0, 0), HIDDEN);
        x.tick(1);
        x.eraser(1);
        int[][] want = {{4, 1, 2}, {1, 1, 2}};
        for (int i = 0; i < 2; i++) for (int what = 0; what < 3; what++) Doc.due("log(" + i + ", " + what + ")", x.log(i, what), want[i][what]);
        for (int what : new int[] {-1, 3, MIN, MAX}) Doc.due("what " + what, x.log(0, what), HIDDEN);
        for (int i : new int[] {-1, 2, 59, 60, MIN, MAX}) Doc.due("i " + i, x.log(i, 0), HIDDEN);
        for (int i = 0; i < 70; i++) x.eraser(i % 2);
        Doc.due("the last one of 60", x.log(59, 0), 4);
        Doc.due("none behind it", x.log(60, 0), HIDDEN);
    }

    private static void arrival() {
        Doc.says(23, "The ARRIVALS, the latest (i 0), the one ahead of it (1) ..: 0 number, 1 FROM, 2 TO, 3 WAIT. NONE: no such ones.");
        SlotBuses x = new SlotBuses();
        for (int what = 0; what < 4; what++) Doc.due("no ROW", x.arrival(0, what), NONE);
        Check.again(x, "sn3;qf2t0m2;qf0t1");
        Doc.due("none", x.arrival(0, 0), NONE);
        x.tick(2);
        int[][] want = {{2, 2, 0, 1}, {1, 2, 0, 0}, {3, 0, 1, 0}};
        for (int i = 0; i < 3; i++) for (int what = 0; what < 4; what++) Doc.due("arrival(" + i + ", " + what + ")", x.arrival(i, what), want[i][what]);
        for (int what : new int[] {-1, 4, MIN, MAX}) Doc.due("what " + what, x.arrival(0, what), NONE);
        for (int i : new int[] {-1, 3, 39, 40, MIN, MAX}) Doc.due("i " + i, x.arrival(i, 0), NONE);
    }

    /** Of a TIME near its end: n that still can be, n that can't. */
    private interface Look {
        long of(SlotBuses x, int n);
    }

    private static void nearTimesEnd(int least, long refused, Look look) {
        String text = "sn2;qm9;qf1t0m9";
        for (int left : new int[] {0, 1, 19, 199, 200, 201}) {
            SlotBuses x = at(text, 9999 - left);
            for (int n = least; n <= 200; n++) {
                if (n <= 2 || n >= 199 || Math.abs(n - left) < 2) {
                    Doc.due(n + " TICKS ahead, " + left + " to TIME's end", look.of(x, n) == refused, n > left);
                }
            }
        }
    }

    private static void ahead() {
        Doc.says(0, "(Apart, from as it is now.) AHEAD n TICKS (0 .. 200): how many are DELIVERED by these, how many wait then, how many are LOST by these.");
        SlotBuses x = Check.row("sn2b1;qm9;qm9;qm9;qm3");
        for (int n = 0; n <= 200; n++) Doc.due("DELIVERED by " + n, x.ahead(n, 0), Math.min(30, (n + 1) / 2));
        for (int n = 0; n <= 200; n++) Doc.due("wait behind " + n, x.ahead(n, 1), 30 - Math.min(30, (n + 1) / 2));
        Doc.due("apart", x.all(0) * 100 + x.all(1), 30);
        x = Check.row("sn3;qf0t2m9;qf2t1");
        x.cut(1);
        x.tick(2);
        Doc.due("LOST till now", x.all(4), 3);
        for (int n = 0; n <= 200; n++) Doc.due("LOST by " + n, x.ahead(n, 2), Math.min(7, n));
        for (int n : new int[] {-1, 201, MIN, MAX}) Doc.due("ahead(" + n + ")", x.ahead(n, 1), NONE);
        Doc.says(24, "AHEAD: DELIVERED (0), waiting (1), LOST (2). NONE: no ROW, out of bounds, TIME would be above 9,999.");
        for (int what = 0; what < 3; what++) Doc.due("no ROW", new SlotBuses().ahead(0, what), NONE);
        for (int what : new int[] {-1, 3, MIN, MAX}) Doc.due("what " + what, x.ahead(1, what), NONE);
        for (int n : new int[] {-1, 201, MIN, MAX}) for (int what = 0; what < 3; what++) Doc.due("n " + n, x.ahead(n, what), NONE);
        Doc.due("0 and 200", x.ahead(0, 1) * 10 + x.ahead(200, 1), 70);
        for (int what = 0; what < 3; what++) {
            int told = what;
            nearTimesEnd(0, NONE, (y, n) -> y.ahead(n, told));
        }
    }

    /** 189 that wait, for more than 200 TICKS. */
    private static SlotBuses crowd(int ticks) {
        SlotBuses x = Check.row("sn8b1");
        for (int from = 0; from < 7; from++) {
            for (int i = 0; i < 3; i++) x.come(from, 7, 0, 9);
        }
        for (int i = 0; i < ticks; i++) x.tick(1);
        return x;
    }

    /** In which order the crowd comes, and in which TICK; the last number is how many TICKS it takes till none waits. */
    private static List<int[]> seen() {
        List<int[]> arrivals = new ArrayList<>();
        SlotBuses x = crowd(0);
        int drained = 0;
        for (int t = 1; t <= 400; t++) {
            int n = x.tick(1);
            for (int i = n - 1; i >= 0; i--) arrivals.add(new int[] {x.arrival(i, 0), t});
            if (drained == 0 && x.all(1) == 0) drained = t;
        }
        arrivals.add(new int[] {0, drained});
        return arrivals;
    }

    private static void whenAndNext() {
        List<int[]> seen = seen();
        int many = seen.size() - 1;
        int last = seen.get(many - 1)[1];
        Doc.says(0, "WHEN a SEGMENT is DELIVERED: behind how many TICKS (within 200).");
        Doc.due("all of them came", many, 189);
        Doc.due("the last one behind more than 200", last > 210, true);
        for (int ticks : new int[] {0, 1, last - 201, last - 200, last - 199}) {
            SlotBuses x = crowd(ticks);
            for (int[] one : seen.subList(0, many)) {
                int due = one[1] - ticks;
                if (due < 3 || due > 190) Doc.due("when(" + one[0] + ")", x.when(one[0]), due >= 1 && due <= 200 ? due : NONE);
            }
        }
        Doc.says(0, "NEXT: the i-th that is DELIVERED within 200 TICKS.");
        for (int ticks : new int[] {0, last - 201, last - 200}) {
            SlotBuses x = crowd(ticks);
            int i = 0;
            for (int[] one : seen.subList(0, many)) {
                if (one[1] > ticks && one[1] <= ticks + 200) {
                    Doc.due("next(" + i + ")", x.next(i), one[0]);
                    i++;
                }
            }
            Doc.due("no such one", x.next(i), NONE);
            Doc.due("as AHEAD tells", x.ahead(200, 0), i);
        }
        Doc.says(25, "WHEN. NONE: no such one waits or is under way, not within 200 (nor to TIME's end).");
        for (int number : new int[] {1, 0, -1, MAX}) Doc.due("no ROW", new SlotBuses().when(number), NONE);
        SlotBuses x = Check.row("sn3d3;qf0t2m3;qf1t0");
        for (int number : new int[] {0, -1, 5, MIN, MAX}) Doc.due("when(" + number + ")", x.when(number), NONE);
        Doc.due("it waits", x.when(1), 7);
        x.tick(1);
        Doc.due("it is under way", x.when(1), 6);
        x.tick(5);
        Doc.due("in the next TICK", x.when(1), 1);
        x.tick(1);
        Doc.due("it was DELIVERED", x.when(1), NONE);
        x.cut(1);
        Doc.due("it is LOST", x.when(2) + x.when(3), 2 * NONE);
        x.come(0, 1, 0, 2);
        x.withdraw(0, 1);
        Doc.due("it will be there; it is WITHDRAWN", x.when(5) * 10 + x.when(6), 40 + NONE);
        x.come(0, 2, 0, 1);
        Doc.due("it will be LOST", x.when(7), NONE);
        atTimesEnd((y, number) -> y.when(number));
        Doc.says(26, "NEXT. NONE: no such one.");
        for (int i : new int[] {0, -1, MAX}) Doc.due("no ROW", new SlotBuses().next(i), NONE);
        x = Check.row("sn2;qm2");
        Doc.due("two", x.next(0) * 10 + x.next(1), 12);
        for (int i : new int[] {2, -1, MIN, MAX}) Doc.due("next(" + i + ")", x.next(i), NONE);
        atTimesEnd((y, i) -> y.next(i - 1));
    }

    /** 27 wait, so many TICKS can be. */
    private static void atTimesEnd(Look look) {
        for (int left : new int[] {0, 1, 19, 26, 27}) {
            SlotBuses x = at("sn2", 9999 - left);
            for (int i = 0; i < 3; i++) x.come(0, 1, 0, 9);
            for (int i = 1; i <= 27; i++) Doc.due(i + ", " + left + " TICKS can be", look.of(x, i), i <= left ? i : NONE);
            Doc.due("28", look.of(x, 28), NONE);
        }
    }

    private static void drained() {
        List<int[]> seen = seen();
        int takes = seen.get(seen.size() - 1)[1];
        Doc.says(0, "DRAINED: behind how many TICKS nothing waits (200 at most).");
        Doc.due("it takes more than 210", takes > 210, true);
        Doc.due("201", crowd(takes - 201).drained(), NONE);
        for (int left : new int[] {200, 199, 2, 1, 0}) Doc.due("" + left, crowd(takes - left).drained(), left);
        Doc.says(27, "DRAINED (0: nothing waits now). NONE: no ROW, not within 200 (nor to TIME's end).");
        Doc.due("no ROW", new SlotBuses().drained(), NONE);
        SlotBuses x = Check.row("sn2d3");
        Doc.due("nothing waits", x.drained(), 0);
        x.come(0, 1, 0, 1);
        Doc.due("one waits", x.drained(), 1);
        x.tick(1);
        Doc.due("under way is not waiting", x.drained() * 10 + x.all(2), 1);
        for (int left : new int[] {0, 1, 8, 9, 10}) {
            x = at("sn2", 9999 - left);
            Doc.due("at TIME's end nothing waits", x.drained(), 0);
            x.come(0, 1, 0, 9);
            Doc.due("nine, " + left + " TICKS can be", x.drained(), left >= 9 ? 9 : NONE);
        }
    }

    private static void share() {
        Doc.says(0, "SHARE of a STATION for n TICKS (1 .. 200): SLOTS into which it sends in these, of both BUSES.");
        SlotBuses x = Check.row("sn3b1;qf1t2m9;qf1t0m9;qf1t2m9;qf0t2");
        x.reserve(1, 2, 2);
        x.tick(1);
        for (int n = 1; n <= 200; n++) {
            SlotBuses y = Check.row("sn3b1;qf1t2m9;qf1t0m9;qf1t2m9;qf0t2");
            y.reserve(1, 2, 2);
            y.tick(1);
            int was = y.station(1, 2);
            for (int left = n; left > 0; left -= 60) y.tick(Math.min(left, 60));
            Doc.due("share(1, " + n + ")", x.share(1, n), y.station(1, 2) - was);
        }
        for (int n : new int[] {0, -1, 201, MIN, MAX}) Doc.due("share(1, " + n + ")", x.share(1, n), NONE);
        Doc.due("one that sends nothing", x.share(2, 200), 0);
        Doc.due("what is LOST was sent", lostShare(), 3);
        Doc.says(28, "SHARE. NONE: no such STATION, out of bounds, TIME would be above 9,999.");
        for (int s : new int[] {-1, 3, MIN, MAX}) Doc.due("STATION " + s, x.share(s, 1), NONE);
        for (int n : new int[] {-1, 0, 201, MIN, MAX}) Doc.due("n " + n, x.share(0, n), NONE);
        Doc.due("the last ones", x.share(2, 1) + x.share(2, 200), 0);
        Doc.due("no ROW", new SlotBuses().share(0, 1), NONE);
        nearTimesEnd(1, NONE, (y, n) -> y.share(1, n));
    }

    private static int lostShare() {
        SlotBuses x = Check.row("sn2;qm9");
        x.cut(0);
        return x.share(0, 3);
    }

    private static void fair() {
        Doc.says(0, "FAIR for m (1 .. 99) STATIONS: BALANCE by 1 and BALANCE times m, as a fraction without a common divisor (BALANCE 0: 0 by 1).");
        for (int b = 0; b <= 9; b++) {
            SlotBuses x = Check.row("sb" + b);
            for (int m = 1; m <= 99; m++) {
                Doc.due("BALANCE " + b + ", m " + m, x.fair(m, 0) * 10000 + x.fair(m, 1), b * 10000 + 1 + b * m);
            }
        }
        Doc.says(29, "FAIR: the upper number (0), the lower one (1). NONE: no ROW, out of bounds.");
        SlotBuses x = Check.row("sb9");
        Doc.due("both", x.fair(99, 0) * 1000 + x.fair(99, 1), 9892);
        for (int m : new int[] {0, 100, -1, MIN, MAX}) Doc.due("m " + m, x.fair(m, 0) + x.fair(m, 1), 2 * NONE);
        for (int what : new int[] {-1, 2, MIN, MAX}) Doc.due("what " + what, x.fair(1, what), NONE);
        Doc.due("no ROW", new SlotBuses().fair(1, 0) + new SlotBuses().fair(1, 1), 2 * NONE);
    }

    /** The one numbered 1 has to let all others pass; behind so many TICKS one more comes to STATION 6. */
    private static SlotBuses starved(int ticks) {
        SlotBuses x = Check.row("sn8d3l3b1");
        x.come(0, 7, 0, 1);
        for (int i = 0; i < 4; i++) x.come(0, 7, 2, i < 3 ? 9 : 2);
        for (int i = 0; i < 4; i++) x.come(1, 7, 1, i < 3 ? 9 : 3);
        x.reserve(0, 7, 2);
        for (int i = 0; i < ticks; i++) x.tick(1);
        return x;
    }

    private static void firstCome() {
        Doc.says(0, "FIRST COME: whether, of those that wait now and are DELIVERED within 200 TICKS, of any two of one BUS and LEVEL that with the lesser number is "
            + "DELIVERED no later.");
        int takes = 0;
        SlotBuses x = starved(0);
        for (int t = 1; t <= 400 && takes == 0; t++) {
            if (x.tick(1) > 0 && x.arrival(0, 0) == 1) takes = t;
        }
        Doc.due("it takes more than 201 TICKS", takes > 201, true);
        for (int left : new int[] {201, 200, 199}) {
            x = starved(takes - left);
            Doc.due("all others are in order", x.firstCome(), true);
            x.come(6, 7, 0, 1);
            Doc.due("the first one behind " + left, x.when(1), left <= 200 ? left : NONE);
            Doc.due("the last one is there ahead of it, " + left, x.firstCome(), left > 200);
        }
        Doc.due("one BUS", Check.row("sn4;qf2t3;qf0t3").firstCome(), false);
        Doc.due("of two BUSES", Check.row("sn4;qf2t3;qf0t1;qf3t0").firstCome(), false);
        Doc.due("of two LEVELS", Check.row("sn4l2;qf2t3;qf0t3l1").firstCome(), true);
        Doc.due("one of each BUS", Check.row("sn4d1;qf0t3;qf3t2").firstCome(), true);
        Doc.due("in one TICK: no later", Check.row("sn4e2;qf2t3;qf0t1").firstCome(), true);
        Doc.due("in one TICK, then others", Check.row("sn4e2;qf2t3;qf0t1;qf0t3m2").firstCome(), true);
        for (int k = 0; k < 36; k++) farAndNear(k / 18, k / 6 % 3, k / 3 % 2, k % 3);
        Doc.due("one TICK later", Check.row("sn4;qf2t3;qf0t1").firstCome(), false);
        x = Check.row("sn3d3;qf1t2;qf0t2");
        x.tick(1);
        Doc.due("both wait, the later one is DELIVERED one TICK ahead", Check.row("sn3d3;qf1t2;qf0t2").firstCome(), false);
        Doc.due("it is under way: one alone waits now", x.firstCome(), true);
        x = Check.row("sn4;qf2t3;qf0t3");
        x.cut(1);
        Doc.due("what will be LOST is none of them", x.firstCome(), true);
        x = Check.row("sn2;qm9");
        for (int i = 0; i < 3; i++) Doc.due("again and again", x.firstCome(), true);
        Doc.says(30, "FIRST COME. False: no ROW, too.");
        Doc.due("no ROW", new SlotBuses().firstCome(), false);
        Doc.due("none waits", Check.row("s").firstCome(), true);
        Doc.due("one waits", Check.row("q").firstCome(), true);
        for (int left : new int[] {0, 1, 2, 3}) {
            x = at("sn4", 9999 - left);
            x.come(2, 3, 0, 1);
            x.come(0, 3, 0, 1);
            Doc.due(left + " to TIME's end", x.firstCome(), left < 2);
        }
    }

    /** A far one, then a near one that is there sooner: each of a BUS and a LEVEL. */
    private static void farAndNear(int bus, int level, int otherBus, int otherLevel) {
        SlotBuses x = Check.row("sn8d3l3;" + (bus == 0 ? "qf0t7l" : "qf7t0l") + level + ";" + (otherBus == 0 ? "qf0t1l" : "qf7t6l") + otherLevel);
        Doc.due("the near one is sooner there", x.when(2) < x.when(1), true);
        Doc.due("BUS " + bus + ", LEVEL " + level + ", and " + otherBus + ", " + otherLevel, x.firstCome(), bus != otherBus || level != otherLevel);
        x.tick(6);
        Doc.due("none waits any more", x.firstCome(), true);
        x.come(bus == 0 ? 0 : 7, bus == 0 ? 7 : 0, level, 1);
        Doc.due("one alone", x.firstCome(), true);
    }

    private static void worst() {
        Doc.says(0, "WORST: the HOP that, were it CUT, parts most SEGMENTS that wait from where they go (of several the lowest).");
        for (int n = 2; n <= 8; n++) {
            SlotBuses x = Check.row("sn" + n + ";qf0t" + (n - 1) + "m2;qf" + (n - 1) + "t0m3");
            Doc.due("all alike: the lowest of " + n, x.worst(0) * 10 + x.worst(1), 5);
            x.come(n - 1, n - 2, 0, 1);
            Doc.due("the last one", x.worst(0) * 10 + x.worst(1), 10 * (n - 2) + 6);
            x.tick(1);
            Doc.due("that wait", x.worst(1), x.all(1));
        }
        SlotBuses x = Check.row("sn4;qf1t2m3;qf3t0");
        Doc.due("of both BUSES", x.worst(0) * 10 + x.worst(1), 14);
        for (int n = 2; n <= 8; n++) {
            for (int hop = 0; hop < n - 1; hop++) {
                for (int level = 0; level < 3; level++) {
                    x = Check.row("sn" + n + "l3;qf" + hop + "t" + (hop + 1) + "l" + level);
                    Doc.due("of BUS 0, LEVEL " + level, x.worst(0) * 10 + x.worst(1), 10 * hop + 1);
                    x = Check.row("sn" + n + "l3;qf" + (hop + 1) + "t" + hop + "l" + level);
                    Doc.due("of BUS 1, LEVEL " + level, x.worst(0) * 10 + x.worst(1), 10 * hop + 1);
                }
            }
        }
        x = Check.row("sn4;qf1t2m3;qf3t0");
        x.cut(1);
        Doc.due("one that is not CUT: of several the lowest", x.worst(0) * 10 + x.worst(1), 1);
        Doc.due("none waits: the lowest", Check.row("sn4").worst(0) * 10 + Check.row("sn4").worst(1), 0);
        Doc.says(31, "WORST: the HOP (0), how many (1). NONE: no ROW, all are CUT, no such what.");
        Doc.due("no ROW", new SlotBuses().worst(0) + new SlotBuses().worst(1), 2 * NONE);
        for (int what : new int[] {-1, 2, MIN, MAX}) Doc.due("what " + what, x.worst(what), NONE);
        x.cut(0);
        Doc.due("the last that is not CUT", x.worst(0) * 10 + x.worst(1), 21);
        x.cut(2);
        Doc.due("all are CUT", x.worst(0) + x.worst(1), 2 * NONE);
        x.heal(0);
        Doc.due("one is not any more", x.worst(0) * 10 + x.worst(1), 1);
    }

    private static void gain() {
        Doc.says(0, "GAIN: the STATION, none yet, that, were it an ERASER, makes most DELIVERED within n TICKS (of several the lowest); how many.");
        SlotBuses x = Check.row("sn5;qf0t1;qf2t4;qf3t4");
        Doc.due("1 or 2: the lowest", x.gain(1, 0) * 10 + x.gain(1, 1), 12);
        x.eraser(1);
        Doc.due("with 1 there is no gain: the lowest that is none yet", x.gain(1, 0) * 10 + x.gain(1, 1), 2);
        x.eraser(0);
        Doc.due("0 is one: the next", x.gain(1, 0) * 10 + x.gain(1, 1), 22);
        x = Check.row("sn5;qf1t2;qf3t4");
        Doc.due("2 or 3", x.gain(1, 0) * 10 + x.gain(1, 1), 22);
        Doc.due("within two TICKS all come: the lowest", x.gain(2, 0) * 10 + x.gain(2, 1), 2);
        x = Check.row("sn5;qf0t1m9");
        x.tick(3);
        for (int n = 1; n <= 9; n++) Doc.due("within " + n + " TICKS, not what was DELIVERED till now", x.gain(n, 1), Math.min(n, 6));
        x = Check.row("sn3");
        Doc.due("none waits: the lowest", x.gain(1, 0) * 10 + x.gain(200, 1), 0);
        Doc.says(32, "GAIN: the STATION (0), how many (1). NONE: all are ERASERS, no ROW, n not 1 .. 200, TIME would be above 9,999, no such what.");
        x = Check.row("sn2e1;q");
        Doc.due("one is none yet", x.gain(1, 0) * 10 + x.gain(1, 1), 11);
        x.eraser(1);
        Doc.due("all are ERASERS", x.gain(1, 0) + x.gain(1, 1), 2 * NONE);
        Doc.due("all of eight", Check.row("sn8e255").gain(1, 0), NONE);
        Doc.due("all but the last of eight", Check.row("sn8e127").gain(1, 0), 7);
        Doc.due("no ROW", new SlotBuses().gain(1, 0), NONE);
        x = Check.row("sn3;qf0t1");
        for (int n : new int[] {0, -1, 201, MIN, MAX}) Doc.due("n " + n, x.gain(n, 0) + x.gain(n, 1), 2 * NONE);
        Doc.due("n 1, 200", x.gain(1, 1) * 10 + x.gain(200, 1), 11);
        for (int what : new int[] {-1, 2, MIN, MAX}) Doc.due("what " + what, x.gain(1, what), NONE);
        nearTimesEnd(1, NONE, (y, n) -> y.gain(n, 1));
    }

    private static void spread() {
        Doc.says(0, "SPREAD of the ARRIVALS that are told: the least WAIT, the greatest, the middle one (rising, numbered from 0 on, that of half of how many there are, "
            + "cut), STATIONS they came FROM (bits).");
        SlotBuses x = Check.row("sn2;qm9");
        for (int k = 1; k <= 9; k++) {
            x.tick(1);
            Doc.due("least of " + k, x.spread(0), 0);
            Doc.due("greatest of " + k, x.spread(1), k - 1);
            Doc.due("the middle one of " + k, x.spread(2), k / 2);
            Doc.due("FROM", x.spread(3), 1);
        }
        x = Check.row("sn8");
        for (int s = 0; s < 8; s++) {
            x.come(s, 7 - s, 0, 1);
            x.tick(1);
            Doc.due("FROM 0 .. " + s, x.spread(3), (2 << s) - 1);
        }
        x = Check.row("sn2;qf1t0m9;qf1t0m9");
        for (int k = 0; k < 2; k++) x.tick(9);
        Doc.due("18", x.spread(0) * 10000 + x.spread(1) * 100 + x.spread(2), 1709);
        x.come(0, 1, 0, 9);
        x.come(0, 1, 0, 9);
        x.tick(18);
        x.come(0, 1, 0, 4);
        x.tick(4);
        Doc.due("40: the WAITS 0 and 1 of 1 are told", x.count(5) * 10 + x.spread(3), 403);
        // 0 .. 17 two times, 0 .. 3 once: the one numbered 20 of 40.
        Doc.due("the middle one of 40", x.spread(2), 8);
        x.come(0, 1, 0, 9);
        x.tick(9);
        // Of 1 the nine latest, 9 .. 17; of 0 0 .. 17, 0 .. 3, 0 .. 8.
        Doc.due("the latest 40 alone", x.count(5) * 100 + x.spread(2), 4008);
        x.come(0, 1, 0, 9);
        x.tick(9);
        Doc.due("none of 1 is told any more", x.spread(3), 1);
        Doc.says(33, "SPREAD: 0 least, 1 greatest, 2 the middle one, 3 STATIONS (bits). NONE: no ARRIVALS, no such what.");
        for (int what = 0; what < 4; what++) Doc.due("no ROW", new SlotBuses().spread(what), NONE);
        for (int what = 0; what < 4; what++) Doc.due("no ARRIVALS", Check.row("q").spread(what), NONE);
        for (int what : new int[] {-1, 4, MIN, MAX}) Doc.due("what " + what, x.spread(what), NONE);
        x = Check.row("sn2d3;qf1t0");
        x.tick(4);
        int[] want = {3, 3, 3, 2};
        for (int what = 0; what < 4; what++) Doc.due("of one", x.spread(what), want[what]);
        x.undo();
        Doc.due("no ARRIVALS any more", x.spread(0), NONE);
    }

    private static void mean() {
        Doc.says(0, "MEAN of a STATION: WAITS of those that it sent and that were DELIVERED, added up, by how many, without a common divisor.");
        SlotBuses x = Check.row("sn2;qm9;qf1t0");
        for (int k = 1; k <= 9; k++) {
            x.tick(1);
            Doc.due("of " + k, x.mean(0, 0) * 10 + x.mean(0, 1), k % 2 == 0 ? 10 * (k - 1) + 2 : 10 * ((k - 1) / 2) + 1);
        }
        Doc.due("of the other one", x.mean(1, 0) * 10 + x.mean(1, 1), 1);
        for (int i = 0; i < 5; i++) {
            x.come(0, 1, 0, 9);
            x.tick(9);
        }
        Doc.due("of all 54, more than are told", x.all(3) * 100 + x.mean(0, 0) * 10 + x.mean(0, 1), 5541);
        Doc.says(34, "MEAN: the upper number (0), the lower one (1). NONE: none was DELIVERED, no such ones.");
        for (int s : new int[] {-1, 2, MIN, MAX}) Doc.due("STATION " + s, x.mean(s, 0), NONE);
        for (int what : new int[] {-1, 2, MIN, MAX}) Doc.due("what " + what, x.mean(0, what), NONE);
        x = Check.row("sn3d1;qf0t2;qf1t0");
        x.tick(2);
        Doc.due("sent, not DELIVERED yet", x.station(0, 2) * 10 + x.mean(0, 0), 10 + NONE);
        Doc.due("it sent nothing", x.mean(2, 0) + x.mean(2, 1), 2 * NONE);
        x.tick(1);
        Doc.due("DELIVERED: 2 by 1", x.mean(0, 0) * 10 + x.mean(0, 1), 21);
        x = Check.row("sn2;q");
        x.cut(0);
        x.tick(1);
        Doc.due("LOST", x.mean(0, 0), NONE);
        Doc.due("no ROW", new SlotBuses().mean(0, 0) + new SlotBuses().mean(0, 1), 2 * NONE);
    }

    private static void hurt() {
        Doc.says(0, "HURT by RESERVED: how many less are DELIVERED in n TICKS, were it for that BUS, STATION, EVERY (below 0: more).");
        SlotBuses x = Check.row("sn2;qm9;qm9;qm9;qf1t0m9;qf1t0m9;qf1t0m9");
        for (int every = 2; every <= 9; every++) {
            for (int n = 1; n <= 27; n++) {
                Doc.due("EVERY " + every + ", n " + n, x.hurt(0, 1, every, n), n / every);
                Doc.due("the other BUS", x.hurt(1, 0, every, n), n / every);
            }
            Doc.due("for itself", x.hurt(0, 0, every, 20), 0);
            Doc.due("in 200 all come", x.hurt(0, 1, every, 200), 0);
        }
        x.reserve(0, 1, 2);
        for (int n = 1; n <= 27; n++) Doc.due("none any more: more", x.hurt(0, 1, 0, n), -(n / 2));
        Doc.due("a greater EVERY: more", x.hurt(0, 1, 9, 18), 9 - 16);
        Doc.due("apart", x.reserved(0, 1) * 10 + x.all(0), 20);
        Doc.says(35, "HURT (n 1 .. 200). HIDDEN: as reserve() would be refused, n out of bounds, TIME would be above 9,999.");
        for (int n : new int[] {0, -1, 201, MIN, MAX}) Doc.due("n " + n, x.hurt(0, 0, 2, n), HIDDEN);
        Doc.due("n 1, 200", x.hurt(0, 0, 2, 1) + x.hurt(0, 0, 2, 200), 0);
        int[][] wrong = {{0, 1, 2}, {1, 0, 0}, {1, 1, 0}, {0, 2, 3}, {0, -1, 3}, {2, 0, 3}, {-1, 0, 3}, {0, 0, 1}, {0, 0, 10}, {0, 0, -1}, {MIN, 0, 3},
            {MAX, 0, 3}, {0, MIN, 3}, {0, MAX, 3}, {0, 0, MIN}, {0, 0, MAX}};
        for (int[] a : wrong) {
            Doc.due("hurt(" + a[0] + ", " + a[1] + ", " + a[2] + ", 5)", x.hurt(a[0], a[1], a[2], 5), HIDDEN);
            Doc.due("reserve(" + a[0] + ", " + a[1] + ", " + a[2] + ")", x.reserve(a[0], a[1], a[2]), NONE);
        }
        int[][] right = {{0, 1, 9}, {0, 1, 3}, {0, 0, 2}, {0, 0, 0}, {1, 0, 2}, {1, 1, 9}};
        for (int[] a : right) {
            Doc.due("hurt(" + a[0] + ", " + a[1] + ", " + a[2] + ", 5)", x.hurt(a[0], a[1], a[2], 5) == HIDDEN, false);
            Doc.due("reserve(" + a[0] + ", " + a[1] + ", " + a[2] + ")", x.reserve(a[0], a[1], a[2]) == NONE, false);
        }
        Doc.due("no ROW", new SlotBuses().hurt(0, 0, 2, 1), HIDDEN);
        nearTimesEnd(1, HIDDEN, (y, n) -> y.hurt(0, 0, 2, n));
    }
}
