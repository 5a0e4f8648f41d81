/** The edges that part 2 of the Terms names: what comes, a TICK, RESERVED, ACTS, STATUS, the LOG. */
final class TickEdges {
    private static final int NONE = SlotBuses.NONE;
    private static final int HIDDEN = SlotBuses.HIDDEN;

    private TickEdges() {
    }

    static void all() {
        stations();
        segments();
        lines();
        hears();
        begins();
        delays();
        reads();
        goesInto();
        balance();
        oneLess();
        asks();
        goesOn();
        time();
        reserved();
        reservedThere();
        reservedOnTheWay();
        waits();
        cuts();
        withdrawn();
        undone();
        statuses();
        logs();
    }

    private static void line(String what, SlotBuses x, int station, int bus, int level, int... want) {
        for (int k = 0; k < want.length; k++) {
            Doc.due(what + ", line(" + station + ", " + bus + ", " + level + ", " + k + ")", Check.line(x, station, bus, level, k), want[k]);
        }
    }

    private static void ticks(String what, SlotBuses x, int... want) {
        for (int i = 0; i < want.length; i++) Doc.due(what + ", tick " + (i + 1), x.tick(1), want[i]);
    }

    private static void stations() {
        Doc.says(0, "STATIONS 0 .. n less 1; HOP h lies between STATIONS h and h + 1.");
        for (int n = 2; n <= 8; n++) {
            SlotBuses x = Check.row("sn" + n);
            Doc.due("the last STATION of " + n, x.station(n - 1, 0), 0);
            Doc.due("none behind it", x.station(n, 0), NONE);
            Doc.due("the first one", x.station(0, 0), 0);
            Doc.due("none ahead of it", x.station(-1, 0), NONE);
            Doc.due("the last HOP of " + n, x.hop(n - 2, 1, 0), 0);
            Doc.due("none behind it", x.hop(n - 1, 1, 0), NONE);
            Doc.due("none ahead of the first one", x.hop(-1, 0, 0), NONE);
        }
        for (int h = 0; h < 7; h++) {
            SlotBuses x = Check.row("sn8d1;qf" + h + "t" + (h + 1));
            x.tick(h + 1);
            SlotBuses y = Check.row("sn8d1;qf" + (h + 1) + "t" + h);
            y.tick(7 - h);
            for (int k = 0; k < 7; k++) {
                Doc.due("on HOP " + k + " by BUS 0", x.hop(k, 0, 1), k == h ? 1 : 0);
                Doc.due("on HOP " + k + " by BUS 1", y.hop(k, 1, 1), k == h ? 1 : 0);
            }
            Doc.due("it is there", x.tick(1) * 10 + x.station(h + 1, 1), 11);
            Doc.due("it is there", y.tick(1) * 10 + y.station(h, 1), 11);
        }
        Doc.says(0, "BUS 0 goes by numbers rising, BUS 1 falling.");
        SlotBuses x = Check.row("sn3d1");
        x.tick(1);
        Doc.due("BUS 0", x.hop(0, 0, 0) * 10 + x.hop(1, 0, 0), 10);
        Doc.due("BUS 1", x.hop(0, 1, 0) * 10 + x.hop(1, 1, 0), 1);
        x.tick(1);
        Doc.due("BUS 0, one HOP on", x.hop(0, 0, 0) * 10 + x.hop(1, 0, 0), 11);
        Doc.due("BUS 1, one HOP on", x.hop(0, 1, 0) * 10 + x.hop(1, 1, 0), 11);
    }

    private static void segments() {
        Doc.says(0, "A SEGMENT (numbered 1, 2 .. as they come) goes FROM a STATION TO another one, by BUS 0 if that has the greater number, "
            + "else by BUS 1");
        SlotBuses x = Check.row("sn8");
        Doc.due("the first", x.come(3, 4, 0, 1), 1);
        Doc.due("the second", x.come(3, 2, 0, 1), 2);
        Doc.due("nine more", x.come(0, 7, 0, 9), 11);
        Doc.due("then", x.come(7, 0, 0, 1), 12);
        Doc.due("to the next one above", Check.line(x, 3, 0, 0, 5), 1);
        Doc.due("to the next one below", Check.line(x, 3, 1, 0, 5), 2);
        Doc.due("from the first one", Check.line(x, 0, 0, 0, 0) * 10 + Check.line(x, 0, 1, 0, 0), 90);
        Doc.due("from the last one", Check.line(x, 7, 0, 0, 0) * 10 + Check.line(x, 7, 1, 0, 0), 1);
        x.withdraw(0, 7);
        Doc.due("a number is not used again", x.come(1, 2, 0, 1), 13);
        x.undo();
        Doc.due("but by what was undone", x.come(1, 2, 0, 2), 14);
        Doc.says(0, "it has a LEVEL (below LEVELS).");
        for (int levels = 1; levels <= 3; levels++) {
            x = Check.row("sl" + levels);
            for (int level = 0; level < levels; level++) Doc.due("LEVEL " + level + " of " + levels, x.come(0, 1, level, 1), level + 1);
            Doc.due("LEVEL " + levels + " of " + levels, x.come(0, 1, levels, 1), NONE);
            Doc.due("LEVEL -1", x.come(0, 1, -1, 1), NONE);
        }
    }

    private static void lines() {
        Doc.says(0, "A STATION has for each BUS and LEVEL a LINE of SEGMENTS that wait, the first of which is ACTIVE or not, and three counts, "
            + "0 at first: RQ, CD, OWED.");
        SlotBuses x = Check.row("sn8l3");
        for (int k = 0; k < 48; k++) line("at first", x, k / 6, k / 3 % 2, k % 3, 0, 0, 0, 0, 0, 0);
        Doc.says(0, "All LINES of a STATION have 30 at most.");
        x = Check.row("sn3l3");
        x.come(1, 2, 0, 9);
        x.come(1, 0, 1, 9);
        x.come(1, 2, 2, 9);
        Doc.due("31", x.come(1, 0, 0, 4), NONE);
        Doc.due("too much", x.status(3) * 100 + x.station(1, 0), 127);
        Doc.due("30", x.come(1, 0, 0, 3), 30);
        Doc.due("31", x.come(1, 2, 0, 1), NONE);
        Doc.due("another STATION", x.come(2, 1, 0, 9), 39);
        x.tick(1);
        // 2 heard an ask of LEVEL 1, so it let the SLOT of BUS 1 pass.
        Doc.due("one of each BUS went", x.station(1, 0), 28);
        Doc.due("three are too many", x.come(1, 0, 2, 3), NONE);
        Doc.due("two come", x.come(1, 0, 2, 2), 41);
        Doc.due("no more", x.come(1, 0, 2, 1), NONE);
        x = Check.row("sn8;qf1t7");
        for (int i = 0; i < 240; i++) x.come(i % 8, (i + 3) % 8, 0, 1);
        for (int s = 0; s < 8; s++) Doc.due("each has 30", x.station(s, 0), 30);
        Doc.says(0, "A SEGMENT comes to the end of its LINE. Is none of a LINE ACTIVE that is not empty, its first one is at once: CD is RQ, RQ is 0, "
            + "OWED is one more.");
        x = Check.row("sn3;qf1t2");
        x.tick(1);
        line("RQ", x, 0, 0, 0, 0, 0, 1, 0, 0, 0);
        x.come(0, 2, 0, 3);
        line("the first of three is ACTIVE", x, 0, 0, 0, 3, 1, 0, 1, 1, 2);
        x.come(0, 1, 0, 1);
        line("one is", x, 0, 0, 0, 4, 1, 0, 1, 1, 2);
        Doc.due("the end", x.waiting(0, 0, 0, 3, 0) * 10 + x.waiting(0, 0, 0, 4, 0), 49);
        x = Check.row("sn2;q");
        x.tick(1);
        line("empty again", x, 0, 0, 0, 0, 0, 0, 0, 0, 0);
        x.come(0, 1, 0, 1);
        line("once more", x, 0, 0, 0, 1, 1, 0, 0, 1, 2);
    }

    private static void hears() {
        Doc.says(0, "To HEAR an ask at a LEVEL, for a BUS: RQ of that LEVEL is one more; of each lower LEVEL CD, if its first one is ACTIVE, else RQ.");
        SlotBuses x = Check.row("sn3l3;qf1t2l2;qf0t2m2");
        x.tick(1);
        line("of that LEVEL", x, 0, 0, 2, 0, 0, 1, 0, 0, 0);
        line("lower, none ACTIVE", x, 0, 0, 1, 0, 0, 1, 0, 0, 0);
        line("lower, ACTIVE", x, 0, 0, 0, 1, 1, 0, 1, 1, 3);
        x = Check.row("sn3l3;qf1t2l1");
        x.tick(1);
        line("a greater one", x, 0, 0, 2, 0, 0, 0, 0, 0, 0);
        line("of that LEVEL", x, 0, 0, 1, 0, 0, 1, 0, 0, 0);
        line("lower", x, 0, 0, 0, 0, 0, 1, 0, 0, 0);
        x = Check.row("sn3l3;qf1t2");
        x.tick(1);
        line("the lowest: no other", x, 0, 0, 1, 0, 0, 0, 0, 0, 0);
        line("the lowest", x, 0, 0, 0, 0, 0, 1, 0, 0, 0);
        x = Check.row("sn3;qf0t2m2;qf1t2");
        x.tick(1);
        line("of that LEVEL RQ, though one is ACTIVE", x, 0, 0, 0, 1, 1, 1, 0, 2, 2);
        line("not for the BUS that bore it", x, 0, 1, 0, 0, 0, 0, 0, 0, 0);
        Doc.says(0, "A TICK: first BUS 0, then BUS 1: STATIONS in the order of the BUS");
        x = Check.row("sn3;qf2t0;qf0t2");
        x.tick(1);
        Doc.due("BUS 0, then BUS 1", x.arrival(1, 0) * 10 + x.arrival(0, 0), 21);
        Doc.due("rising, in one TICK", Check.row("sn4e6;qf2t3;qf1t2;qf0t1").tick(1), 3);
        Doc.due("falling, in one TICK", Check.row("sn4e6;qf1t0;qf2t1;qf3t2").tick(1), 3);
    }

    private static void begins() {
        Doc.says(0, "a new SLOT begins at its first STATION, and at each that has a CUT HOP ahead of it");
        ticks("the first one", Check.row("sn2;qm2;qf1t0m2"), 2, 2, 0);
        SlotBuses x = Check.row("sn4;qf1t2;qf2t1;qf2t3");
        x.cut(1);
        Doc.due("2 begins BUS 0, 1 begins BUS 1", x.tick(1), 1);
        Doc.due("what goes over it is LOST", x.all(4), 2);
        x = Check.row("sn3;qf0t1;qf1t2;qf2t1;qf1t0");
        x.cut(0);
        x.cut(1);
        Doc.due("all are CUT", x.tick(1), 0);
        Doc.due("each began its own", x.all(4), 4);
        x = Check.row("sn3d3;qf1t2;qf1t0");
        x.cut(0);
        x.tick(1);
        Doc.due("at once, whatever DELAY is", x.hop(1, 0, 1) * 10 + x.hop(0, 1, 1), 10);
        Doc.due("what is not behind a CUT HOP has none yet", x.all(1), 1);
        Doc.says(0, "A SLOT is EMPTY or has a SEGMENT, that was READ or not; it bears an ask for each LEVEL, for the other BUS, or not (a new one: "
            + "EMPTY, none).");
        x = Check.row("sn3d1l3;qf1t0;qf1t0l1;qf1t0l2");
        x.tick(1);
        for (int what = 1; what < 4; what++) Doc.due("new on BUS 0, " + what, x.hop(0, 0, what), 0);
        for (int what = 1; what < 4; what++) Doc.due("new on BUS 1, " + what, x.hop(1, 1, what), 0);
        x.tick(1);
        Doc.due("one ask of each LEVEL", x.hop(1, 0, 2), 3);
        Doc.due("EMPTY", x.hop(1, 0, 1), 0);
        Doc.due("for the other BUS: none on this one", x.hop(0, 1, 2), 0);
        Doc.due("with a SEGMENT", x.hop(0, 1, 1), 1);
        x = Check.row("sn2");
        x.tick(60);
        x.cut(0);
        x.tick(60);
        Doc.due("EMPTY without end", x.all(3) + x.all(4) + x.all(10), 0);
    }

    private static void delays() {
        Doc.says(0, "to others comes what went on from the one ahead DELAY TICKS ago (0: just now; nothing, if it is not as long since the first TICK, "
            + "since that HOP was HEALED).");
        for (int d = 0; d <= 3; d++) {
            SlotBuses x = Check.row("sn3d" + d + ";qf0t2;qf2t1");
            Doc.due("over two HOPS of DELAY " + d, x.when(1), 1 + 2 * d);
            Doc.due("over one HOP of DELAY " + d, x.when(2), 1 + d);
            for (int t = 1; t <= 9; t++) {
                x.tick(1);
                Doc.due("SLOTS on the first HOP", x.hop(0, 0, 0), Math.min(t, d));
                Doc.due("SLOTS on the second HOP", x.hop(1, 0, 0), Math.max(0, Math.min(t - d, d)));
                Doc.due("DELIVERED", x.all(3), (t > d ? 1 : 0) + (t > 2 * d ? 1 : 0));
            }
            healed(d);
        }
    }

    /** Behind HEALED nothing comes to 1 by BUS 0, nor to 0 by BUS 1, till DELAY is over. */
    private static void healed(int d) {
        SlotBuses x = Check.row("sn3d" + d);
        x.tick(9);
        x.cut(0);
        x.tick(9);
        x.heal(0);
        x.come(1, 2, 0, 1);
        for (int t = 1; t <= 8; t++) {
            Doc.due("TICK " + t + " behind HEALED, DELAY " + d, x.tick(1), t == 1 + 2 * d ? 1 : 0);
            Doc.due("it waits", x.all(1), t <= d ? 1 : 0);
            Doc.due("on HOP 1 by BUS 0", x.hop(1, 0, 0), t <= d ? d - t : Math.min(t - d, d));
        }
    }

    private static void reads() {
        Doc.says(0, "At a STATION: (1) has it a SEGMENT not READ TO this STATION, that is DELIVERED (READ then)");
        SlotBuses x = Check.row("sn4;qf0t1");
        Doc.due("once", x.tick(1) * 10 + x.tick(9), 10);
        Doc.due("there", x.station(0, 1) * 1000 + x.station(1, 1) * 100 + x.station(2, 1) * 10 + x.station(3, 1), 100);
        x = Check.row("sn4;qf0t3;qf3t0");
        Doc.due("at the last STATION of each BUS", x.tick(1) * 100 + x.station(3, 1) * 10 + x.station(0, 1), 211);
        Doc.says(0, "is the STATION an ERASER, a SLOT with a SEGMENT that is READ, here or ahead, is EMPTY.");
        x = Check.row("sn4e2;qf0t1;qf1t3");
        Doc.due("READ here", x.tick(1) * 10 + x.all(10), 21);
        x = Check.row("sn4e4;qf0t1;qf2t3");
        Doc.due("READ ahead", x.tick(1) * 10 + x.all(10), 21);
        x = Check.row("sn4e2;qf0t2;qf1t3");
        Doc.due("not READ yet", x.tick(1) * 10 + x.all(10), 10);
        x = Check.row("sn4e1;qf0t1;qf1t3");
        Doc.due("an ERASER ahead of it", x.tick(1) * 10 + x.all(10), 10);
        x = Check.row("sn4e12;qf0t1");
        x.tick(9);
        Doc.due("EMPTY is not emptied again", x.all(10), 1);
        x = Check.row("sn4e15");
        x.tick(9);
        Doc.due("new ones are EMPTY", x.all(10), 0);
        x = Check.row("sn4;qf0t1;qf1t3");
        Doc.due("no ERASER", x.tick(1) * 10 + x.all(10), 10);
        x = Check.row("sn2e3;q;qf1t0");
        Doc.due("at the last STATION, too", x.tick(1) * 10 + x.all(10), 22);
        for (int d = 0; d <= 3; d++) {
            x = Check.row("sn4d" + d + "e9;qf0t1;qf3t1;qf0t2");
            x.tick(20);
            Doc.due("READ ahead, DELAY " + d, x.all(3) * 10 + x.all(10), 33);
        }
    }

    private static void goesInto() {
        Doc.says(0, "(2) Is it EMPTY, the ACTIVE SEGMENT of the greatest LEVEL with CD 0 (for this BUS) goes into it (it waits no more; the next of its LINE "
            + "is ACTIVE at once)");
        ticks("it is not EMPTY", Check.row("sn3;qf0t1;qf1t2"), 1, 1, 0);
        SlotBuses x = Check.row("sn2l3;ql0;ql1m2;ql2");
        x.tick(1);
        Doc.due("the greatest", x.arrival(0, 0), 4);
        Doc.due("it waits no more", x.all(1), 3);
        line("the other LINES stay", x, 0, 0, 1, 2, 1, 0, 1, 0, 2);
        x = Check.row("sn2;qm2");
        x.tick(1);
        line("the next is ACTIVE", x, 0, 0, 0, 1, 1, 0, 0, 1, 2);
        x = Check.row("sn3l2;qf0t2m3;qf1t2l1");
        x.reserve(0, 0, 2);
        x.tick(2);
        x.come(0, 2, 1, 1);
        line("a greater LEVEL with CD 1", x, 0, 0, 1, 1, 1, 0, 1, 1, 5);
        line("a lower LEVEL with CD 0", x, 0, 0, 0, 1, 1, 0, 0, 1, 3);
        Doc.due("the greatest with CD 0", x.tick(1) * 10 + x.arrival(0, 0), 13);
        line("no CD is less then", x, 0, 0, 1, 1, 1, 0, 1, 0, 5);
        x = Check.row("sn3;qf1t0;qf1t2");
        Doc.due("for this BUS", x.tick(1) * 100 + x.arrival(1, 0) * 10 + x.arrival(0, 0), 221);
    }

    private static void balance() {
        Doc.says(0, "and, if BALANCE is above 0, SENT of this STATION and BUS is one more; are these BALANCE, SENT is 0, and of each LEVEL CD, if its first one is "
            + "ACTIVE, else RQ is one more.");
        SlotBuses x = Check.row("sn2b0;qm9");
        ticks("BALANCE 0", x, 1, 1, 1, 1, 1, 1, 1, 1);
        Doc.due("SENT of BALANCE 0", x.station(0, 3), 0);
        for (int b = 1; b <= 9; b++) {
            x = Check.row("sn2b" + b + ";qm9;qm9");
            for (int t = 0; t < 17; t++) {
                int at = t % (b + 1);
                Doc.due("BALANCE " + b + ", tick " + (t + 1), x.tick(1), at < b ? 1 : 0);
                Doc.due("SENT", x.station(0, 3), at < b - 1 ? at + 1 : 0);
                if (x.all(1) > 0) Doc.due("CD", Check.line(x, 0, 0, 0, 3), at == b - 1 ? 1 : 0);
            }
        }
        x = Check.row("sn3b2;qf1t2;qf1t0m2");
        x.tick(1);
        Doc.due("of each BUS", x.station(1, 3) * 10 + x.station(1, 4), 11);
        Doc.due("of each STATION", x.station(0, 3) + x.station(0, 4) + x.station(2, 3) + x.station(2, 4), 0);
        x.tick(1);
        Doc.due("BUS 1 has BALANCE", x.station(1, 3) * 10 + x.station(1, 4), 10);
        line("RQ of BUS 1", x, 1, 1, 0, 0, 0, 1, 0, 0, 0);
        x = Check.row("sn2b1l3;ql2");
        x.tick(1);
        line("of each LEVEL: its own", x, 0, 0, 2, 0, 0, 1, 0, 0, 0);
        line("of each LEVEL: a lower one, and its own ask", x, 0, 0, 1, 0, 0, 2, 0, 0, 0);
        line("of each LEVEL: the lowest one, and its own ask", x, 0, 0, 0, 0, 0, 2, 0, 0, 0);
        x = Check.row("sn2b1l3;ql1m2;ql2");
        x.tick(1);
        line("ACTIVE: CD; not of LEVEL 0", x, 0, 0, 1, 2, 1, 0, 2, 0, 1);
        line("RQ of LEVEL 0: BALANCE, an ask of LEVEL 2, one of LEVEL 1", x, 0, 0, 0, 0, 0, 3, 0, 0, 0);
    }

    private static void oneLess() {
        Doc.says(0, "If none goes into it: of each LEVEL CD, if its first one is ACTIVE, else RQ is one less, 0 at least.");
        SlotBuses x = Check.row("sn2b1l3;ql2");
        x.tick(1);
        x.come(0, 1, 0, 1);
        line("CD is RQ", x, 0, 0, 0, 1, 1, 0, 2, 1, 2);
        Doc.due("none goes", x.tick(1), 0);
        line("CD", x, 0, 0, 0, 1, 1, 0, 1, 0, 2);
        line("RQ 2", x, 0, 0, 1, 0, 0, 1, 0, 0, 0);
        line("RQ 1", x, 0, 0, 2, 0, 0, 0, 0, 0, 0);
        Doc.due("none goes", x.tick(1), 0);
        line("CD", x, 0, 0, 0, 1, 1, 0, 0, 0, 2);
        line("RQ 1", x, 0, 0, 1, 0, 0, 0, 0, 0, 0);
        line("RQ 0 stays", x, 0, 0, 2, 0, 0, 0, 0, 0, 0);
        Doc.due("it goes", x.tick(1), 1);
        x = Check.row("sn8l3");
        x.tick(60);
        for (int k = 0; k < 48; k++) line("0 at least", x, k / 6, k / 3 % 2, k % 3, 0, 0, 0, 0, 0, 0);
        x = Check.row("sn3;qf0t1;qf1t0;qf1t2");
        x.tick(1);
        line("RQ 1", x, 0, 0, 0, 0, 0, 1, 0, 1, 0);
        x.come(0, 2, 0, 9);
        x.tick(1);
        line("an EMPTY SLOT went by", x, 0, 0, 0, 9, 1, 0, 0, 1, 4);
    }

    private static void asks() {
        Doc.says(0, "(3) For each LEVEL, the greatest first: does it bear that ask, the STATION HEARS it, for the other BUS; else, is OWED for the other BUS "
            + "above 0, the SLOT bears it, OWED is one less, and of each lower LEVEL (for the other BUS) CD, if its first one is ACTIVE, else RQ is one more.");
        SlotBuses x = Check.row("sn3d1l3;qf1t0;qf1t0l1;qf1t0l2");
        x.tick(2);
        line("the greatest: it asked and went", x, 1, 1, 2, 0, 0, 0, 0, 0, 0);
        line("one asked above it", x, 1, 1, 1, 1, 1, 0, 1, 0, 2);
        line("two asked above it", x, 1, 1, 0, 1, 1, 0, 2, 0, 1);
        x.tick(1);
        // Then its own new SLOT of BUS 1 goes by EMPTY: each is one less.
        line("2 heard: LEVEL 2", x, 2, 1, 2, 0, 0, 0, 0, 0, 0);
        line("2 heard: LEVEL 1 and one above", x, 2, 1, 1, 0, 0, 1, 0, 0, 0);
        line("2 heard: LEVEL 0 and two above", x, 2, 1, 0, 0, 0, 2, 0, 0, 0);
        x = Check.row("sn3;qf0t2;qf1t2");
        x.tick(1);
        line("it bears that ask: OWED stays", x, 0, 0, 0, 0, 0, 1, 0, 1, 0);
        x.tick(1);
        line("the next one does not: OWED is 0", x, 0, 0, 0, 0, 0, 0, 0, 0, 0);
        x.tick(9);
        line("OWED is no less than 0", x, 0, 0, 0, 0, 0, 0, 0, 0, 0);
        x = Check.row("sn2;qm3");
        x.tick(1);
        line("one ask of a LEVEL in a SLOT", x, 0, 0, 0, 2, 1, 0, 0, 1, 2);
        x = Check.row("sn3d1;qf1t2m3");
        x.tick(2);
        Doc.due("one ask in one SLOT", x.hop(0, 1, 2) * 10 + Check.line(x, 1, 0, 0, 4), 11);
        x = Check.row("sn3l2;qf0t2l1;qf1t2");
        x.tick(1);
        line("a SLOT bears one LEVEL from 1, the other from 0", x, 0, 0, 1, 0, 0, 0, 0, 0, 0);
        line("its own ask and the one that it HEARS", x, 0, 0, 0, 0, 0, 2, 0, 0, 0);
    }

    private static void goesOn() {
        Doc.says(0, "Then it goes on, unless it is at the last STATION of the BUS, or ahead of a CUT HOP: it is gone (with a SEGMENT not READ: LOST).");
        SlotBuses x = Check.row("sn3;qf0t2;qf2t0");
        x.tick(9);
        Doc.due("READ at the last one", x.all(3) * 10 + x.all(4), 20);
        x = Check.row("sn3;qf0t1;qf2t1");
        x.cut(0);
        x.heal(0);
        x.cut(1);
        x.tick(1);
        Doc.due("READ ahead of a CUT HOP; not READ ahead of it", x.all(3) * 10 + x.all(4), 11);
        x = Check.row("sn3;qf0t2;qf2t0");
        x.cut(1);
        x.tick(1);
        Doc.due("not READ, of both BUSES", x.all(3) * 10 + x.all(4), 2);
        Doc.due("they are nowhere", x.all(1) + x.all(2), 0);
        for (int d = 0; d <= 3; d++) {
            x = Check.row("sn4d" + d + ";qf0t1;qf3t2m2;qf3t0");
            x.tick(20);
            Doc.due("READ ahead of the last one, DELAY " + d, x.all(3) * 100 + x.all(4) * 10 + x.all(2), 400);
        }
        x = Check.row("sn3d3;qf0t2;qf2t0");
        x.cut(0);
        x.tick(9);
        Doc.due("not on the HOP", x.hop(0, 0, 0) + x.hop(0, 1, 0), 0);
        Doc.due("LOST behind DELAY, too", x.all(4), 2);
        x = Check.row("sn4;qf2t3;qf1t0");
        x.cut(1);
        x.tick(1);
        line("asks are gone", x, 1, 0, 0, 0, 0, 0, 0, 0, 0);
        line("asks are gone", x, 2, 1, 0, 0, 0, 0, 0, 0, 0);
    }

    private static void time() {
        Doc.says(0, "TIME is one more behind both (9,999 at most).");
        SlotBuses x = Check.row("sn2");
        Doc.due("at first", x.all(0), 0);
        x.tick(1);
        Doc.due("1", x.all(0), 1);
        for (int i = 0; i < 166; i++) x.tick(60);
        Doc.due("9,961", x.all(0), 9961);
        Doc.due("39 more are too much", x.tick(39) * 10000 + x.all(0), -10000 + 9961);
        Doc.due("38 are not", x.tick(38) * 10000 + x.all(0), 9999);
        Doc.due("no TICK more", x.tick(1), NONE);
        Doc.due("it stays", x.all(0) * 10 + x.status(3), 99992);
        Doc.due("others come", x.come(0, 1, 0, 1), 1);
        Doc.due("TIME as it came", x.waiting(0, 0, 0, 0, 2), 9999);
        Doc.due("a HOP is HEALED", x.cut(0) * 10000 + x.heal(0), 9999);
        Doc.due("undone it goes on", x.undo() * 0 + x.undo() * 0 + x.undo() * 0 + x.undo() * 0 + x.tick(38), 0);
    }

    private static void reserved() {
        Doc.says(0, "RESERVED: for a BUS a STATION and EVERY (2 .. 9), or none (so at first).");
        for (int bus = 0; bus < 2; bus++) {
            SlotBuses x = Check.row("sn3");
            Doc.due("none", x.reserved(bus, 1), NONE);
            for (int every = -1; every <= 11; every++) {
                Doc.due("EVERY " + every, x.reserve(bus, 1, every) == NONE, every < 2 || every > 9);
                Doc.due("it is so", x.reserved(bus, 1), every < 2 ? NONE : Math.min(every, 9));
            }
            Doc.due("none any more", x.reserve(bus, 1, 0), 9);
            Doc.due("the other BUS", x.reserved(1 - bus, 1), NONE);
        }
        Doc.says(0, "Since it was, of the new SLOTS that begin at the first STATION of the BUS (not of those behind a CUT HOP) each EVERY-th (that, two times that ..) "
            + "is that STATION's, till it has been there");
        for (int every = 2; every <= 9; every++) {
            for (int bus = 0; bus < 2; bus++) {
                SlotBuses x = Check.row(bus == 0 ? "sn2;qm9;qm9;qm9" : "sn2;qf1t0m9;qf1t0m9;qf1t0m9");
                x.tick(1);
                x.reserve(bus, 1 - bus, every);
                for (int t = 1; t <= 20; t++) {
                    Doc.due("EVERY " + every + ", TICK " + t, x.tick(1), t % every == 0 ? 0 : 1);
                    Doc.due("till the next one", x.reserved(bus, 2), every - t % every);
                }
            }
        }
        SlotBuses x = Check.row("sn3;qf1t2m9");
        x.reserve(0, 2, 2);
        x.cut(0);
        ticks("behind a CUT HOP", x, 1, 1, 1, 1);
        Doc.due("at the first STATION they are counted on", x.reserved(0, 2), 2);
        x.tick(1);
        Doc.due("at the first STATION they are counted on", x.reserved(0, 2), 1);
        x.heal(0);
        ticks("HEALED: the next is its", x, 0, 1, 0, 1);
        x = Check.row("sn4d1");
        x.reserve(0, 2, 2);
        x.tick(6);
        for (int hop = 0; hop < 3; hop++) Doc.due("till it has been there, HOP " + hop, x.hop(hop, 0, 3), hop == 0 ? 1 : 0);
        x.tick(1);
        for (int hop = 0; hop < 3; hop++) Doc.due("one TICK on, HOP " + hop, x.hop(hop, 0, 3), hop == 1 ? 1 : 0);
    }

    private static void reservedThere() {
        Doc.says(0, "at others nothing goes into it in (2), no count is less");
        SlotBuses x = Check.row("sn4;qf0t3m4;qf1t3m4");
        x.reserve(0, 2, 2);
        ticks("at none of them", x, 1, 0, 1, 0);
        x = Check.row("sn3l2;qf1t2l1");
        x.reserve(0, 2, 2);
        x.tick(1);
        line("RQ", x, 0, 0, 1, 0, 0, 1, 0, 0, 0);
        x.come(0, 2, 0, 1);
        line("CD", x, 0, 0, 0, 1, 1, 0, 1, 1, 2);
        x.tick(1);
        line("RQ is no less", x, 0, 0, 1, 0, 0, 1, 0, 0, 0);
        line("CD is no less", x, 0, 0, 0, 1, 1, 0, 1, 0, 2);
        x.tick(1);
        line("by the next SLOT it is", x, 0, 0, 1, 0, 0, 0, 0, 0, 0);
        line("by the next SLOT it is", x, 0, 0, 0, 1, 1, 0, 0, 0, 2);
        Doc.says(0, "there, is it EMPTY, the first SEGMENT of the LINE (for this BUS) of the greatest LEVEL that is not empty goes into it, whatever CD is "
            + "(the next of its LINE is ACTIVE at once; SENT stays), or nothing, then no count is less");
        x = Check.row("sn3l3b1;qf0t2m3;qf0t1l1");
        x.reserve(0, 0, 2);
        x.tick(1);
        Doc.due("LEVEL 1 went first, SENT is 0 by BALANCE", x.arrival(0, 0) * 10 + x.station(0, 3), 40);
        line("CD: BALANCE and its own ask", x, 0, 0, 0, 3, 1, 0, 2, 0, 1);
        Doc.due("whatever CD is", x.tick(1) * 10 + x.arrival(0, 0), 11);
        Doc.due("SENT stays", x.station(0, 3) * 10 + x.station(0, 2), 2);
        line("the next is ACTIVE", x, 0, 0, 0, 2, 1, 0, 0, 0, 2);
        x = Check.row("sn2l3b3;qm2;ql1m2");
        x.reserve(0, 0, 2);
        x.tick(2);
        Doc.due("the greatest LEVEL that is not empty, SENT stays 1", x.arrival(0, 0) * 100 + x.station(0, 3) * 10 + x.station(0, 2), 412);
        x = Check.row("sn3;qf1t2");
        x.reserve(0, 0, 2);
        x.tick(1);
        line("RQ", x, 0, 0, 0, 0, 0, 1, 0, 0, 0);
        x.tick(1);
        line("nothing goes: no count is less", x, 0, 0, 0, 0, 0, 1, 0, 0, 0);
        x.tick(1);
        line("the next is another one's", x, 0, 0, 0, 0, 0, 0, 0, 0, 0);
        x = Check.row("sn3;qf1t0;qf1t0");
        x.reserve(0, 1, 2);
        x.cut(0);
        x.heal(0);
        x.tick(2);
        Doc.due("for this BUS", x.all(3) * 10 + x.hop(1, 0, 1), 20);
        Doc.says(0, "behind it it is like any other one");
        x = Check.row("sn4;qf2t3m4");
        x.reserve(0, 1, 2);
        ticks("2 sends in each", x, 1, 1, 1, 1);
        x = Check.row("sn4b1;qf2t3");
        x.reserve(0, 1, 2);
        x.tick(1);
        line("RQ by BALANCE", x, 2, 0, 0, 0, 0, 1, 0, 0, 0);
        x.tick(1);
        line("is less", x, 2, 0, 0, 0, 0, 0, 0, 0, 0);
    }

    private static void reservedOnTheWay() {
        Doc.says(0, "(SLOTS that are on their way stay whose they are.)");
        for (int every : new int[] {0, 9}) {
            SlotBuses x = Check.row("sn3d2");
            x.reserve(0, 2, 2);
            x.tick(2);
            Doc.due("one is on its way", x.hop(0, 0, 3), 1);
            x.reserve(0, every == 0 ? 2 : 1, every);
            Doc.due("it stays", x.hop(0, 0, 3), 1);
            x.come(1, 2, 0, 3);
            x.tick(1);
            Doc.due("the first one goes", x.all(1), 2);
            x.tick(1);
            Doc.due("none into that", x.all(1), 2);
            Doc.due("it is on HOP 1", x.hop(1, 0, 3) * 10 + x.hop(0, 0, 3), 10);
            x.tick(1);
            Doc.due("the next one goes", x.all(1), 1);
        }
    }

    private static void waits() {
        Doc.says(0, "WAIT of a DELIVERED SEGMENT: TIME (as it is in that TICK) less TIME as it came.");
        for (int d = 0; d <= 3; d++) {
            SlotBuses x = Check.row("sn2d" + d);
            x.tick(5);
            x.come(0, 1, 0, 2);
            x.tick(9);
            Doc.due("the first, DELAY " + d, x.arrival(1, 3), d);
            Doc.due("the second, DELAY " + d, x.arrival(0, 3), d + 1);
            x = Check.row("sn3d" + d + ";qf0t2;qf2t0");
            x.tick(1);
            x.come(0, 2, 0, 1);
            x.come(2, 0, 0, 1);
            x.tick(9);
            for (int i = 0; i < 4; i++) Doc.due("one TICK later, over two HOPS of DELAY " + d, x.arrival(i, 3), 2 * d);
        }
    }

    private static void cuts() {
        Doc.says(0, "CUT: a HOP; SLOTS on it (both BUSES) are gone likewise.");
        SlotBuses x = Check.row("sn3d3;qf0t1m2;qf1t0;qf2t0;qf1t2");
        x.tick(2);
        Doc.due("under way", x.all(2), 3);
        Doc.due("nothing on HOP 1 but by BUS 1", x.hop(0, 0, 1) * 100 + x.hop(1, 0, 1) * 10 + x.hop(1, 1, 1), 201);
        Doc.due("two are LOST", x.cut(0), 2);
        Doc.due("the other HOP stays", x.hop(0, 0, 0) * 100 + x.hop(1, 1, 0) * 10 + x.all(2), 21);
        Doc.due("one of the other BUS is LOST", x.cut(1), 1);
        Doc.due("LOST", x.all(4) * 10 + x.all(2), 30);
        x = Check.row("sn3d1;qf0t1");
        x.tick(2);
        Doc.due("what was READ is not LOST", x.hop(1, 0, 1) * 100 + x.cut(1) * 10 + x.all(4), 100);
        Doc.due("of none", Check.row("sn2d3").cut(0), 0);
        Doc.says(0, "HEALED: nothing is on it.");
        for (int d = 0; d <= 3; d++) {
            x = Check.row("sn3d" + d + ";qf0t2m9;qf2t0m9");
            x.tick(7);
            x.cut(1);
            x.tick(2);
            x.heal(1);
            for (int what = 0; what < 4; what++) Doc.due("on it", x.hop(1, 0, what) + x.hop(1, 1, what), 0);
        }
    }

    private static void withdrawn() {
        Doc.says(0, "WITHDRAWN from a STATION, to another one: all SEGMENTS that wait there TO it, but for ACTIVE ones, are gone.");
        SlotBuses x = Check.row("sn4l3;qf1t3;qf1t2m2;qf1t3m2;qf1t3l1m2;qf1t3l2;qf1t0m2;qf2t3m2");
        Doc.due("two of LEVEL 0, one of LEVEL 1, none of LEVEL 2", x.withdraw(1, 3), 3);
        line("LEVEL 0", x, 1, 0, 0, 3, 1, 0, 0, 1, 1);
        line("LEVEL 1", x, 1, 0, 1, 1, 1, 0, 0, 1, 6);
        line("LEVEL 2", x, 1, 0, 2, 1, 1, 0, 0, 1, 8);
        line("the other BUS", x, 1, 1, 0, 2, 1, 0, 0, 1, 9);
        line("another STATION", x, 2, 0, 0, 2, 1, 0, 0, 1, 11);
        Doc.due("those TO 2 stay", x.waiting(1, 0, 0, 1, 0) * 10 + x.waiting(1, 0, 0, 2, 0), 23);
        Doc.due("not LOST, not DELIVERED", x.all(4) + x.all(3), 0);
        Doc.due("they are numbered", x.all(6), 12);
        Doc.due("ACTIVE ones alone", x.withdraw(1, 3), NONE);
        x.come(1, 3, 0, 1);
        Doc.due("at the end of the LINE", x.waiting(1, 0, 0, 3, 0), 13);
        Doc.due("the last one of the LINE", x.withdraw(1, 3) * 10 + Check.line(x, 1, 0, 0, 0), 13);
        x.come(1, 2, 0, 1);
        Doc.due("behind what is left", x.waiting(1, 0, 0, 3, 0), 14);
        Doc.due("all behind the first one", x.withdraw(1, 2) * 10 + Check.line(x, 1, 0, 0, 0), 31);
        for (int n = 2; n <= 8; n++) {
            for (int levels = 1; levels <= 3; levels++) {
                x = Check.row("sn" + n + "l" + levels);
                for (int l = 0; l < levels; l++) x.come(n - 1, 0, l, 4);
                for (int l = 0; l < levels; l++) x.come(0, n - 1, l, 3);
                Doc.due("of the last STATION, of all LEVELS", x.withdraw(n - 1, 0), 3 * levels);
                Doc.due("of the first STATION, of all LEVELS", x.withdraw(0, n - 1), 2 * levels);
                Doc.due("ACTIVE ones stay", x.all(1) * 10 + x.all(8), 22 * levels);
            }
        }
    }

    private static void undone() {
        Doc.says(0, "These, TICKS, an ERASER that is one or is none any more, RESERVED set or none any more are ACTS");
        SlotBuses x = Check.row("sn3");
        x.come(0, 2, 0, 3);
        Doc.due("come", x.count(4), 1);
        x.tick(1);
        Doc.due("TICKS", x.count(4), 2);
        x.cut(1);
        Doc.due("CUT", x.count(4), 3);
        x.heal(1);
        Doc.due("HEALED", x.count(4), 4);
        x.eraser(1);
        Doc.due("an ERASER", x.count(4), 5);
        x.eraser(1);
        Doc.due("none any more", x.count(4), 6);
        x.withdraw(0, 2);
        Doc.due("WITHDRAWN", x.count(4), 7);
        x.reserve(0, 1, 2);
        Doc.due("RESERVED", x.count(4), 8);
        x.reserve(0, 1, 0);
        Doc.due("none any more", x.count(4), 9);
        x.tick(60);
        Doc.due("TICKS are one ACT", x.count(4), 10);
        x.image();
        Check.script(x, "t1");
        Doc.due("others are none", x.count(4), 10);
        Doc.says(0, "the latest 40 can be UNDONE one by one (the LOG, too).");
        for (int acts : new int[] {1, 39, 40, 41, 80, 81, 121}) {
            x = Check.row("sn2");
            for (int i = 1; i <= acts; i++) x.tick(1 + i % 3);
            int can = Math.min(acts, 40);
            Doc.due("of " + acts, x.count(4), can);
            for (int left = can - 1; left >= 0; left--) {
                Doc.due("still can be", x.undo(), left);
                int done = acts - can + left;
                Doc.due("TIME", x.all(0), timeOf(done));
                Doc.due("the LOG", x.count(3), Math.min(done, 60));
                Doc.due("its latest", x.log(0, 1), done == 0 ? HIDDEN : 1 + done % 3);
            }
            Doc.due("none any more", x.undo(), NONE);
        }
        undoneAndDone();
    }

    /** TIME behind so many TICKS of 2, 3, 1, 2, 3, 1 .. */
    private static int timeOf(int acts) {
        int time = 0;
        for (int i = 1; i <= acts; i++) time += 1 + i % 3;
        return time;
    }

    private static void undoneAndDone() {
        SlotBuses x = Check.row("sn2");
        for (int i = 0; i < 45; i++) x.tick(1);
        for (int i = 0; i < 20; i++) x.undo();
        for (int i = 0; i < 5; i++) x.tick(2);
        Doc.due("some are undone, others done", x.count(4) * 100 + x.all(0), 2535);
        for (int i = 0; i < 5; i++) x.undo();
        Doc.due("the later ones", x.count(4) * 100 + x.all(0), 2025);
        for (int i = 0; i < 20; i++) x.undo();
        Doc.due("the earlier ones", x.count(4) * 100 + x.all(0), 5);
        x = Check.row("sn3d1;qf0t2m3");
        for (int i = 0; i < 61; i++) x.eraser(0);
        x.undo();
        Doc.due("the LOG of 60 is whole again", x.count(3), 60);
        x = Check.row("sn2");
        for (int i = 1; i <= 64; i++) x.tick(1 + i % 60);
        for (int i = 0; i < 3; i++) x.undo();
        for (int i = 0; i < 60; i++) Doc.due("log(" + i + ", 1) of 61", x.log(i, 1), 1 + (61 - i) % 60);
        x = Check.row("sn3d1;qf0t2m3");
        x.tick(5);
        int arrived = x.count(5);
        x.undo();
        Doc.due("ARRIVALS, DELIVERED, WAITS", x.count(5) * 100 + x.all(3) * 10 + x.all(5), 0);
        Doc.due("done again", x.tick(5) == arrived && x.count(5) == arrived, true);
        for (int i = 0; i < Lived.SEEDS; i++) {
            int seed = i;
            SlotBuses y = Lived.row(seed);
            Doc.due("less than 40", y.count(4) > 9 && y.count(4) < 40, true);
            for (Face.Call act : ACTS) {
                if (act.on(Lived.row(seed)) != NONE) {
                    Lived.alike("UNDONE, seed " + seed, () -> {
                        SlotBuses z = Lived.row(seed);
                        act.on(z);
                        z.undo();
                        return z;
                    }, () -> Lived.row(seed));
                }
            }
        }
    }

    private static final Face.Call[] ACTS = {x -> x.come(1, 2, 0, 2), x -> x.come(2, 0, 0, 1), x -> x.tick(7), x -> x.cut(0), x -> x.cut(1),
        x -> x.heal(0), x -> x.heal(1), x -> x.eraser(0), x -> x.withdraw(0, 1), x -> x.withdraw(2, 1), x -> x.reserve(0, 0, 0),
        x -> x.reserve(1, 2, 9)};

    private static void statuses() {
        Doc.says(0, "STATUS: how many ACTS were refused as there was no such one, no ROW (0), out of bounds (1), it is so, there is none (2), too much: 30, TIME (3)");
        SlotBuses x = new SlotBuses();
        x.tick(1);
        x.come(0, 1, 0, 1);
        status("no ROW", x, 2, 0, 0, 0);
        Check.again(x, "sn2;qm9;qm9;qm9");
        x.eraser(2);
        status("no such one", x, 3, 0, 0, 0);
        x.tick(61);
        x.come(0, 1, 0, 0);
        status("out of bounds", x, 3, 2, 0, 0);
        x.heal(0);
        x.withdraw(1, 0);
        x.reserve(0, 0, 0);
        status("it is so, there is none", x, 3, 2, 3, 0);
        x.come(0, 1, 0, 4);
        status("30", x, 3, 2, 3, 1);
        for (int i = 0; i < 166; i++) x.tick(60);
        x.tick(40);
        status("TIME", x, 3, 2, 3, 2);
        Doc.due("none of them is an ACT", x.count(3), 60);
        Doc.says(0, "of several the first; not UNDONE.");
        x = Check.row("sn2;qm9;qm9;qm9");
        x.come(2, 2, 9, 99);
        x.come(0, -1, 0, 4);
        x.reserve(2, 2, 1);
        status("no such one, out of bounds", x, 3, 0, 0, 0);
        x.come(0, 0, 1, 9);
        x.come(0, 0, 0, 10);
        x.reserve(2, 0, 0);
        status("out of bounds, it is so, 30", x, 3, 3, 0, 0);
        x.come(0, 0, 0, 9);
        status("both are one, 30", x, 3, 3, 1, 0);
        x.eraser(0);
        x.come(0, 1, 0, 9);
        x.undo();
        status("not UNDONE", x, 3, 3, 1, 1);
        x.undo();
        status("an undo() of none is no ACT", x, 3, 3, 1, 1);
        for (int i = 0; i < 166; i++) x.tick(60);
        x.tick(39);
        x.tick(61);
        status("out of bounds, TIME", x, 3, 4, 1, 1);
        x = new SlotBuses();
        x.tick(0);
        x.come(0, 0, 0, 0);
        x.reserve(2, 0, 1);
        status("no ROW is told first", x, 3, 0, 0, 0);
    }

    private static void status(String what, SlotBuses x, int... want) {
        for (int k = 0; k < 4; k++) Doc.due(what + ", status(" + k + ")", x.status(k), want[k]);
    }

    private static void logs() {
        Doc.says(0, "The LOG: of each ACT its sort (0 come, 1 TICKS, 2 CUT, 3 HEALED, 4 ERASER, 5 WITHDRAWN, 6 RESERVED), a number (FROM; how many TICKS; the HOP; "
            + "the STATION; FROM; the STATION), how many wait then: the latest 60.");
        SlotBuses x = Check.row("sn8;qt7m2");
        x.come(7, 1, 0, 5);
        x.tick(60);
        x.come(6, 0, 0, 4);
        x.cut(5);
        x.heal(5);
        x.eraser(3);
        x.eraser(3);
        x.withdraw(6, 0);
        x.reserve(1, 2, 9);
        x.reserve(1, 4, 0);
        int[][] want = {{6, 4, 1}, {6, 2, 1}, {5, 6, 1}, {4, 3, 4}, {4, 3, 4}, {3, 5, 4}, {2, 5, 4}, {0, 6, 4}, {1, 60, 0}, {0, 7, 7}};
        for (int i = 0; i < want.length; i++) {
            for (int what = 0; what < 3; what++) Doc.due("log(" + i + ", " + what + ")", x.log(i, what), want[i][what]);
        }
        Doc.due("what its q tell is not in it", x.count(3), 10);
        for (int acts : new int[] {59, 60, 61, 119, 120, 121}) {
            x = Check.row("sn2");
            for (int i = 1; i <= acts; i++) x.tick(1 + i % 60);
            int told = Math.min(acts, 60);
            Doc.due("of " + acts, x.count(3), told);
            for (int i = 0; i < told; i++) Doc.due("log(" + i + ", 1) of " + acts, x.log(i, 1), 1 + (acts - i) % 60);
            Doc.due("no more", x.log(told, 1), HIDDEN);
        }
        Doc.says(0, "The ARRIVALS: of each DELIVERED its number, FROM, TO, WAIT: the latest 40.");
        for (int many : new int[] {1, 39, 40, 41, 79, 80, 81}) {
            x = Check.row("sn3");
            for (int i = 1; i <= many; i++) {
                x.come(i % 3, (i + 1) % 3, 0, 1);
                x.tick(1);
            }
            int told = Math.min(many, 40);
            Doc.due("of " + many, x.all(3) * 100 + x.count(5), many * 100 + told);
            for (int i = 0; i < told; i++) {
                int number = many - i;
                Doc.due("number", x.arrival(i, 0), number);
                Doc.due("FROM", x.arrival(i, 1), number % 3);
                Doc.due("TO", x.arrival(i, 2), (number + 1) % 3);
                Doc.due("WAIT", x.arrival(i, 3), 0);
            }
            Doc.due("no more", x.arrival(told, 0), NONE);
        }
    }
}
