/** The edges that promises 6 to 18 name: what is told of a ROW, and its ACTS. */
final class RowEdges {
    private static final int NONE = SlotBuses.NONE;
    private static final int MIN = Integer.MIN_VALUE;
    private static final int MAX = Integer.MAX_VALUE;

    private RowEdges() {
    }

    static void all() {
        rule();
        line();
        waiting();
        station();
        hop();
        come();
        tick();
        cut();
        heal();
        eraser();
        withdraw();
        reserve();
        reserved();
    }

    /** The answer NONE, one more of just that STATUS, no ACT. */
    private static void refused(String what, SlotBuses x, Face.Call call, int sort) {
        int[] was = new int[4];
        for (int k = 0; k < 4; k++) was[k] = x.status(k);
        int acts = x.count(3) * 100 + x.count(4);
        Doc.due(what, call.on(x), NONE);
        for (int k = 0; k < 4; k++) Doc.due(what + ": status(" + k + ")", x.status(k), was[k] + (k == sort ? 1 : 0));
        Doc.due(what + ": no ACT", x.count(3) * 100 + x.count(4), acts);
    }

    private static void rule() {
        Doc.says(6, "0 STATIONS, 1 DELAY, 2 BALANCE, 3 LEVELS, 4 ERASERS as now (bits, of STATIONS that there are), 5 HOPS that are CUT (bits).");
        SlotBuses x = Check.row("sn8d3b9l3e255");
        int[] want = {8, 3, 9, 3, 255, 0};
        for (int what = 0; what < 6; what++) Doc.due("rule(" + what + ")", x.rule(what), want[what]);
        for (int n = 2; n <= 8; n++) Doc.due("of STATIONS that there are", Check.row("sn" + n + "e255").rule(4), (1 << n) - 1);
        Doc.due("of STATIONS that there are not", Check.row("sn3e248").rule(4), 0);
        for (int h = 0; h < 7; h++) {
            x.cut(h);
            Doc.due("HOP " + h + " is CUT", x.rule(5), (2 << h) - 1);
        }
        x.heal(0);
        Doc.due("HEALED", x.rule(5), 126);
        x.heal(6);
        Doc.due("HEALED", x.rule(5), 62);
        x.eraser(0);
        x.eraser(7);
        Doc.due("none any more", x.rule(4), 126);
        Doc.says(6, "NONE: no ROW, no such what.");
        for (int what = -1; what <= 6; what++) Doc.due("no ROW, rule(" + what + ")", new SlotBuses().rule(what), NONE);
        for (int what : new int[] {-1, 6, MIN, MAX}) Doc.due("rule(" + what + ")", x.rule(what), NONE);
    }

    private static void line() {
        Doc.says(7, "Of a STATION, a BUS, a LEVEL: 0 how long the LINE is, 1 whether its first one is ACTIVE (1, 0), 2 RQ, 3 CD, 4 OWED, 5 the number of its first SEGMENT (0: none).");
        SlotBuses x = Check.row("sn3b1;qf1t2");
        x.tick(1);
        int[] empty = {0, 0, 1, 0, 0, 0};
        for (int what = 0; what < 6; what++) Doc.due("none waits, " + what, Check.line(x, 0, 0, 0, what), empty[what]);
        x.come(0, 2, 0, 9);
        int[] nine = {9, 1, 0, 1, 1, 2};
        for (int what = 0; what < 6; what++) Doc.due("nine wait, " + what, Check.line(x, 0, 0, 0, what), nine[what]);
        Doc.says(7, "NoSuchElementException: no such ones.");
        for (int levels = 1; levels <= 3; levels++) {
            for (int n = 2; n <= 8; n += 3) {
                SlotBuses y = Check.row("sn" + n + "l" + levels);
                Doc.due("the last ones", Check.line(y, n - 1, 1, levels - 1, 5), 0);
                int[][] wrong = {{n, 0, 0, 0}, {-1, 0, 0, 0}, {0, 2, 0, 0}, {0, -1, 0, 0}, {0, 0, levels, 0}, {0, 0, -1, 0}, {0, 0, 0, 6},
                    {0, 0, 0, -1}, {MIN, 0, 0, 0}, {MAX, 0, 0, 0}, {0, MIN, 0, 0}, {0, MAX, 0, 0}, {0, 0, MIN, 0}, {0, 0, MAX, 0},
                    {0, 0, 0, MIN}, {0, 0, 0, MAX}};
                for (int[] a : wrong) {
                    Doc.due("line(" + a[0] + ", " + a[1] + ", " + a[2] + ", " + a[3] + ")", Check.line(y, a[0], a[1], a[2], a[3]), Check.THROWN);
                }
            }
        }
        for (int what = 0; what < 6; what++) Doc.due("no ROW", Check.line(new SlotBuses(), 0, 0, 0, what), Check.THROWN);
    }

    private static void waiting() {
        Doc.says(8, "The i-th SEGMENT of a LINE (0 on): its number (0), TO (1), TIME as it came (2). NONE: no such ones.");
        SlotBuses x = Check.row("sn8l3");
        x.tick(7);
        for (int i = 0; i < 30; i++) x.come(7, i % 7, 2, 1);
        for (int i = 0; i < 30; i++) {
            Doc.due("number", x.waiting(7, 1, 2, i, 0), i + 1);
            Doc.due("TO", x.waiting(7, 1, 2, i, 1), i % 7);
            Doc.due("TIME", x.waiting(7, 1, 2, i, 2), 7);
        }
        for (int i : new int[] {-1, 30, 31, MIN, MAX}) Doc.due("i " + i, x.waiting(7, 1, 2, i, 0), NONE);
        for (int what : new int[] {-1, 3, MIN, MAX}) Doc.due("what " + what, x.waiting(7, 1, 2, 0, what), NONE);
        for (int s : new int[] {-1, 8, MIN, MAX}) Doc.due("STATION " + s, x.waiting(s, 1, 2, 0, 0), NONE);
        for (int bus : new int[] {-1, 2, MIN, MAX}) Doc.due("BUS " + bus, x.waiting(7, bus, 2, 0, 0), NONE);
        for (int level : new int[] {-1, 3, MIN, MAX}) Doc.due("LEVEL " + level, x.waiting(7, 1, level, 0, 0), NONE);
        Doc.due("an empty LINE", x.waiting(7, 1, 1, 0, 0), NONE);
        Doc.due("an empty LINE of the other BUS", x.waiting(7, 0, 2, 0, 0), NONE);
        Doc.due("LEVEL 1 of one LEVEL", Check.row("q").waiting(0, 0, 1, 0, 0), NONE);
        x.tick(1);
        Doc.due("one less", x.waiting(7, 1, 2, 28, 0) * 100 + x.waiting(7, 1, 2, 29, 0), 3000 + NONE);
        Doc.due("no ROW", new SlotBuses().waiting(0, 0, 0, 0, 0), NONE);
    }

    private static void station() {
        Doc.says(9, "Of a STATION: 0 how many wait, 1 DELIVERED to it, 2 that it sent, 3, 4 SENT of BUS 0, 1, 5 the greatest WAIT of those that it sent and that were DELIVERED "
            + "(0 without). NONE: no such ones.");
        SlotBuses x = Check.row("sn3b9;qf0t2m3;qf2t0");
        int[][] first = {{3, 0, 0, 0, 0, 0}, {0, 0, 0, 0, 0, 0}, {1, 0, 0, 0, 0, 0}};
        told("at first", x, first);
        x.tick(1);
        told("one TICK", x, new int[][] {{2, 1, 1, 1, 0, 0}, {0, 0, 0, 0, 0, 0}, {0, 1, 1, 0, 1, 0}});
        x.tick(2);
        told("three TICKS", x, new int[][] {{0, 1, 3, 3, 0, 2}, {0, 0, 0, 0, 0, 0}, {0, 3, 1, 0, 1, 0}});
        x.come(0, 2, 0, 1);
        x.tick(1);
        told("the greatest WAIT stays", x, new int[][] {{0, 1, 4, 4, 0, 2}, {0, 0, 0, 0, 0, 0}, {0, 4, 1, 0, 1, 0}});
        x.cut(1);
        x.come(0, 2, 0, 2);
        x.tick(2);
        told("what is LOST was sent, but has no WAIT", x, new int[][] {{0, 1, 6, 6, 0, 2}, {0, 0, 0, 0, 0, 0}, {0, 4, 1, 0, 1, 0}});
        for (int s : new int[] {-1, 3, MIN, MAX}) Doc.due("STATION " + s, x.station(s, 0), NONE);
        for (int what : new int[] {-1, 6, MIN, MAX}) Doc.due("what " + what, x.station(0, what), NONE);
        for (int what = 0; what < 6; what++) Doc.due("no ROW", new SlotBuses().station(0, what), NONE);
    }

    private static void told(String what, SlotBuses x, int[][] want) {
        for (int s = 0; s < want.length; s++) {
            for (int k = 0; k < want[s].length; k++) Doc.due(what + ", station(" + s + ", " + k + ")", x.station(s, k), want[s][k]);
        }
    }

    private static void hop() {
        Doc.says(10, "Of a HOP, a BUS: SLOTS on it (0), those with a SEGMENT (1), asks that they bear (2; of all LEVELS), those that are RESERVED (3). NONE: no such ones.");
        SlotBuses x = Check.row("sn3d3l3;qf1t0;qf1t0l1;qf1t0l2;qf0t2m2");
        x.reserve(0, 2, 2);
        x.tick(3);
        int[] first = {3, 2, 0, 1};
        for (int what = 0; what < 4; what++) Doc.due("HOP 0, BUS 0, " + what, x.hop(0, 0, what), first[what]);
        for (int what = 0; what < 4; what++) Doc.due("HOP 1, BUS 0, " + what, x.hop(1, 0, what), 0);
        x.tick(3);
        int[] second = {3, 2, 3, 1};
        for (int what = 0; what < 4; what++) Doc.due("HOP 1, BUS 0, " + what, x.hop(1, 0, what), second[what]);
        for (int what = 0; what < 4; what++) Doc.due("without DELAY", Check.row("s").hop(0, 0, what), 0);
        x = Check.row("sn4d1;qf0t1");
        x.tick(2);
        Doc.due("READ is with a SEGMENT", x.hop(1, 0, 1), 1);
        x = Check.row("sn4d1e2;qf0t1");
        x.tick(2);
        Doc.due("emptied is not", x.hop(1, 0, 0) * 10 + x.hop(1, 0, 1), 10);
        for (int hop : new int[] {-1, 3, MIN, MAX}) Doc.due("HOP " + hop, x.hop(hop, 0, 0), NONE);
        for (int bus : new int[] {-1, 2, MIN, MAX}) Doc.due("BUS " + bus, x.hop(0, bus, 0), NONE);
        for (int what : new int[] {-1, 4, MIN, MAX}) Doc.due("what " + what, x.hop(0, 0, what), NONE);
        Doc.due("the last HOP", x.hop(2, 1, 3), 0);
        Doc.due("no ROW", new SlotBuses().hop(0, 0, 0), NONE);
    }

    private static void come() {
        Doc.says(11, "SEGMENTS come (MANY 1 .. 9): the number of the last one.");
        for (int many = 1; many <= 9; many++) {
            SlotBuses x = Check.row("sn3l2");
            Doc.due("MANY " + many, x.come(2, 0, 1, many), many);
            Doc.due("so many wait", Check.line(x, 2, 1, 1, 0), many);
            Doc.due("then", x.come(0, 1, 0, many), 2 * many);
        }
        for (int many : new int[] {0, 10, -1, MIN, MAX}) Doc.due("MANY " + many, Check.row("s").come(0, 1, 0, many), NONE);
        Doc.says(11, "NONE: no such STATIONS (STATUS 0), LEVEL, MANY out of bounds (1), both are one (2), the STATION would have more than 30 (3).");
        for (int n = 2; n <= 8; n += 2) {
            SlotBuses x = Check.row("sn" + n + "l2");
            for (int s : new int[] {-1, n, MIN, MAX}) {
                refused("FROM " + s, x, y -> y.come(s, 0, 0, 1), 0);
                refused("TO " + s, x, y -> y.come(0, s, 0, 1), 0);
                refused("both " + s, x, y -> y.come(s, s, 9, 99), 0);
            }
            for (int level : new int[] {-1, 2, 3, MIN, MAX}) refused("LEVEL " + level, x, y -> y.come(0, 1, level, 1), 1);
            for (int many : new int[] {-1, 0, 10, MIN, MAX}) refused("MANY " + many, x, y -> y.come(0, 1, 0, many), 1);
            for (int s : new int[] {0, n - 1}) refused("both are " + s, x, y -> y.come(s, s, 1, 9), 2);
            int last = n - 1;
            Doc.due("the last ones", x.come(last, 0, 1, 9), 9);
            Doc.due("18", x.come(last, 0, 0, 9), 18);
            Doc.due("27", x.come(last, last - 1, 0, 9), 27);
            for (int many = 4; many <= 9; many++) {
                int more = many;
                refused("more than 30", x, y -> y.come(last, 0, 0, more), 3);
            }
            Doc.due("30", x.come(last, 0, 0, 3), 30);
            refused("31", x, y -> y.come(last, 0, 1, 1), 3);
        }
        refused("no ROW", new SlotBuses(), y -> y.come(0, 1, 0, 1), 0);
    }

    private static void tick() {
        Doc.says(12, "TICKS: how many are DELIVERED by these.");
        SlotBuses x = Check.row("sn3;qf0t2m9;qf2t0m5");
        Doc.due("of both BUSES", x.tick(3), 6);
        Doc.due("by these alone", x.tick(1), 2);
        Doc.due("the others", x.tick(60), 6);
        Doc.due("none", x.tick(60), 0);
        Doc.says(12, "NONE: no ROW (STATUS 0), not 1 .. 60 (1), TIME would be above 9,999 (3).");
        for (int n : new int[] {0, 1, 60, 61}) refused("no ROW, tick(" + n + ")", new SlotBuses(), y -> y.tick(n), 0);
        for (int n = 1; n <= 60; n++) {
            x = Check.row("sn2");
            Doc.due("tick(" + n + ")", x.tick(n) * 100 + x.all(0), n);
        }
        for (int n : new int[] {0, -1, 61, 62, 99, MIN, MAX}) refused("tick(" + n + ")", Check.row("s"), y -> y.tick(n), 1);
        for (int left : new int[] {0, 1, 30, 59, 60}) {
            x = at(9999 - left);
            if (left < 60) refused("TIME 10,000", x, y -> y.tick(left + 1), 3);
            refused("61 is told first", x, y -> y.tick(61), 1);
            refused("0 is told first", x, y -> y.tick(0), 1);
            if (left > 0) Doc.due("TIME 9,999", x.tick(left) * 10000 + x.all(0), 9999);
            refused("at TIME's end", x, y -> y.tick(1), 3);
        }
    }

    /** A ROW of two STATIONS at a TIME. */
    private static SlotBuses at(int time) {
        SlotBuses x = Check.row("sn2");
        for (int i = 0; i < time / 60; i++) x.tick(60);
        if (time % 60 > 0) x.tick(time % 60);
        return x;
    }

    private static void cut() {
        Doc.says(13, "CUT: how many SEGMENTS are LOST by it.");
        for (int d = 0; d <= 3; d++) {
            SlotBuses x = Check.row("sn2d" + d + ";qm9;qf1t0m9");
            x.tick(5);
            Doc.due("DELAY " + d, x.cut(0), 2 * d);
            Doc.due("LOST", x.all(4) * 10 + x.all(2), 20 * d);
        }
        Doc.says(13, "NONE: no such HOP (STATUS 0), it is (2).");
        for (int n = 2; n <= 8; n++) {
            SlotBuses x = Check.row("sn" + n);
            for (int hop : new int[] {-1, n - 1, n, MIN, MAX}) refused("cut(" + hop + ") of " + n, x, y -> y.cut(hop), 0);
            for (int hop = 0; hop < n - 1; hop++) {
                int h = hop;
                Doc.due("cut(" + h + ") of " + n, x.cut(h), 0);
                refused("it is", x, y -> y.cut(h), 2);
            }
        }
        refused("no ROW", new SlotBuses(), y -> y.cut(0), 0);
    }

    private static void heal() {
        Doc.says(14, "HEALED: TIME.");
        SlotBuses x = at(0);
        x.cut(0);
        Doc.due("0", x.heal(0), 0);
        x = at(9999);
        x.cut(0);
        Doc.due("9,999", x.heal(0), 9999);
        Doc.says(14, "NONE: no such HOP (STATUS 0), it is not CUT (2).");
        for (int n = 2; n <= 8; n++) {
            x = Check.row("sn" + n);
            for (int hop : new int[] {-1, n - 1, n, MIN, MAX}) refused("heal(" + hop + ") of " + n, x, y -> y.heal(hop), 0);
            for (int hop = 0; hop < n - 1; hop++) {
                int h = hop;
                refused("it is not", x, y -> y.heal(h), 2);
                x.cut(h);
                Doc.due("heal(" + h + ") of " + n, x.heal(h), 0);
                refused("it is not any more", x, y -> y.heal(h), 2);
            }
        }
        refused("no ROW", new SlotBuses(), y -> y.heal(0), 0);
    }

    private static void eraser() {
        Doc.says(15, "ERASER, or none any more: whether it is one then (1, 0). NONE: no such STATION (STATUS 0).");
        for (int n = 2; n <= 8; n++) {
            SlotBuses x = Check.row("sn" + n);
            for (int s = 0; s < n; s++) {
                Doc.due("eraser(" + s + ")", x.eraser(s) * 1000 + x.rule(4), 1000 + (1 << s));
                Doc.due("again", x.eraser(s) * 1000 + x.rule(4), 0);
            }
            for (int s : new int[] {-1, n, MIN, MAX}) refused("eraser(" + s + ") of " + n, x, y -> y.eraser(s), 0);
        }
        Doc.due("one that was told", Check.row("sn2e2").eraser(1), 0);
        refused("no ROW", new SlotBuses(), y -> y.eraser(0), 0);
    }

    private static void withdraw() {
        Doc.says(16, "WITHDRAWN: how many.");
        for (int many = 2; many <= 9; many++) Doc.due("of " + many, Check.row("qf3t1m" + many).withdraw(3, 1), many - 1);
        SlotBuses x = Check.row("sn2;qm9;qm9;qm9;qm3");
        Doc.due("of 30", x.withdraw(0, 1), 29);
        Doc.due("one is left", x.all(1) * 10 + x.come(0, 1, 0, 1), 41);
        Doc.says(16, "NONE: no such STATIONS (STATUS 0), there are none such (2).");
        for (int n = 2; n <= 8; n++) {
            SlotBuses y = Check.row("sn" + n + ";qm3");
            for (int s : new int[] {-1, n, MIN, MAX}) {
                refused("FROM " + s, y, z -> z.withdraw(s, 1), 0);
                refused("TO " + s, y, z -> z.withdraw(0, s), 0);
                refused("both " + s, y, z -> z.withdraw(s, s), 0);
            }
            int last = n - 1;
            refused("nothing waits there", y, z -> z.withdraw(last, 0), 2);
            refused("to itself", y, z -> z.withdraw(0, 0), 2);
            y.come(last, 0, 0, 1);
            refused("ACTIVE ones alone", y, z -> z.withdraw(last, 0), 2);
            y.come(last, 0, 0, 1);
            Doc.due("one more", y.withdraw(last, 0), 1);
            if (n > 2) refused("none TO it", y, z -> z.withdraw(0, 2), 2);
        }
        refused("no ROW", new SlotBuses(), y -> y.withdraw(0, 1), 0);
    }

    private static void reserve() {
        Doc.says(17, "RESERVED is set, or (every 0) none any more: EVERY as it was (0: none).");
        for (int bus = 0; bus < 2; bus++) {
            SlotBuses x = Check.row("sn8");
            Doc.due("set", x.reserve(bus, 0, 2), 0);
            Doc.due("EVERY 9", x.reserve(bus, 0, 9), 2);
            Doc.due("another STATION", x.reserve(bus, 7, 9), 9);
            Doc.due("none any more", x.reserve(bus, 7, 0), 9);
            Doc.due("set again", x.reserve(bus, 7, 5), 0);
            Doc.due("none any more, by another STATION", x.reserve(bus, 3, 0), 5);
            Doc.due("the other BUS", x.reserve(1 - bus, 3, 2), 0);
        }
        Doc.says(17, "NONE: no such STATION (STATUS 0), BUS not 0, 1, EVERY not 0, 2 .. 9 (1), it is so (of EVERY 0: it is none) (2).");
        for (int n = 2; n <= 8; n++) {
            SlotBuses x = Check.row("sn" + n);
            for (int s : new int[] {-1, n, MIN, MAX}) {
                refused("STATION " + s, x, y -> y.reserve(0, s, 2), 0);
                refused("STATION " + s + " is told first", x, y -> y.reserve(2, s, 1), 0);
                refused("STATION " + s + ", EVERY 0", x, y -> y.reserve(1, s, 0), 0);
            }
            for (int bus : new int[] {-1, 2, MIN, MAX}) {
                refused("BUS " + bus, x, y -> y.reserve(bus, 0, 2), 1);
                refused("BUS " + bus + ", EVERY 0", x, y -> y.reserve(bus, 0, 0), 1);
            }
            for (int every : new int[] {-1, 1, 10, MIN, MAX}) refused("EVERY " + every, x, y -> y.reserve(0, 0, every), 1);
            int last = n - 1;
            for (int bus = 0; bus < 2; bus++) {
                int b = bus;
                refused("it is none", x, y -> y.reserve(b, 0, 0), 2);
                for (int every = 2; every <= 9; every++) {
                    int e = every;
                    Doc.due("EVERY " + e, x.reserve(b, last, e), e == 2 ? 0 : e - 1);
                    refused("it is so", x, y -> y.reserve(b, last, e), 2);
                }
                Doc.due("another STATION is not so", x.reserve(b, 0, 9), 9);
                Doc.due("none any more", x.reserve(b, last, 0), 9);
                refused("it is none any more", x, y -> y.reserve(b, last, 0), 2);
            }
        }
        refused("no ROW", new SlotBuses(), y -> y.reserve(0, 0, 2), 0);
        refused("no ROW, EVERY 0", new SlotBuses(), y -> y.reserve(0, 0, 0), 0);
    }

    private static void reserved() {
        Doc.says(18, "Of a BUS: the STATION (0), EVERY (1), how many new SLOTS till one is its (2; 1: the next one).");
        for (int bus = 0; bus < 2; bus++) {
            SlotBuses x = Check.row("sn8");
            x.reserve(bus, 7 * bus, 9);
            Doc.due("the STATION", x.reserved(bus, 0), 7 * bus);
            Doc.due("EVERY", x.reserved(bus, 1), 9);
            for (int t = 0; t < 20; t++) {
                Doc.due("behind " + t, x.reserved(bus, 2), 9 - t % 9);
                x.tick(1);
            }
            x.reserve(bus, 7 * bus, 2);
            Doc.due("set anew", x.reserved(bus, 2), 2);
            x.tick(1);
            Doc.due("the next one", x.reserved(bus, 2), 1);
            x.reserve(bus, 3, 2);
            Doc.due("for another one: set anew", x.reserved(bus, 2), 2);
        }
        Doc.says(18, "NONE: none, no ROW, no such ones.");
        SlotBuses x = Check.row("sn8");
        for (int what = 0; what < 3; what++) Doc.due("none", x.reserved(0, what) + x.reserved(1, what), 2 * NONE);
        x.reserve(0, 5, 3);
        for (int what = 0; what < 3; what++) Doc.due("none of the other BUS", x.reserved(1, what), NONE);
        for (int what : new int[] {-1, 3, MIN, MAX}) Doc.due("what " + what, x.reserved(0, what), NONE);
        for (int bus : new int[] {-1, 2, MIN, MAX}) Doc.due("BUS " + bus, x.reserved(bus, 0), NONE);
        x.reserve(0, 5, 0);
        for (int what = 0; what < 3; what++) Doc.due("none any more", x.reserved(0, what), NONE);
        for (int what = 0; what < 3; what++) Doc.due("no ROW", new SlotBuses().reserved(0, what), NONE);
    }
}
