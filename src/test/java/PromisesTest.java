import java.math.BigInteger;

/** Promise 1 to 42: ordinary inputs, the edges that the document names, wrong inputs. */
public final class PromisesTest {
    private static final int NONE = SlotBuses.NONE;
    private static final int HIDDEN = SlotBuses.HIDDEN;
    private static final int MIN = Integer.MIN_VALUE;
    private static final int MAX = Integer.MAX_VALUE;

    private static void due(String what, long got, long want) {
        Check.due(what, got, want);
    }

    private static void due(String what, boolean got, boolean want) {
        Check.due(what, got, want);
    }

    private static SlotBuses row(String text) {
        return Check.row(text);
    }

    private static void line(String what, SlotBuses x, int station, int bus, int level, int... want) {
        for (int k = 0; k < want.length; k++) {
            due(what + ": line(" + station + ", " + bus + ", " + level + ", " + k + ")", Check.line(x, station, bus, level, k), want[k]);
        }
    }

    private static void p01NewObject() {
        SlotBuses x = new SlotBuses();
        for (int what = 0; what < 6; what++) {
            due("1 rule", x.rule(what), NONE);
            due("1 count", x.count(what), 0);
        }
        for (int what = 0; what < 4; what++) due("1 status", x.status(what), 0);
        for (int what = 0; what < 11; what++) due("1 all", x.all(what), HIDDEN);
        due("1 firstCome", x.firstCome(), false);
        due("1 undo", x.undo(), NONE);
        due("1 other objects are apart", row("sn5").rule(0) + x.count(0), 5);
    }

    private static void p02Feed() {
        SlotBuses x = new SlotBuses();
        due("2 nothing", x.feed(0, 0, 0, 0, 0), 0);
        due("2 zeros are left out", x.feed('s' << 16, 'n', 0, '5' << 24, 'd' << 8), 4);
        due("2 one more", x.feed(0, 0, 0, 0, '3'), 5);
        due("2 in that order", x.text(0), 5);
        due("2 in that order, d", x.rule(1), 3);
        due("2 a byte above 127", x.feed(0x80ff0001, 0, 0, 0, 0), 3);
        due("2 it is wrong there", x.fault(0), 0);
        x.end(0);
        for (int i = 1; i <= 12; i++) due("2 twenty", x.feed(-1, 0x20202020, -1, MIN + 0x10101, 0x01020304), 20 * i);
        due("2 more than 240", x.feed(1, 0, 0, 0, 0), NONE);
        due("2 it stays", x.count(2), 240);
        due("2 nothing more fits", x.feed(0, 0, 0, 0, 0), 240);
        x.end(238);
        due("2 three are too many", x.feed(0, 0, 0, 1, 0x101), NONE);
        due("2 none of them came", x.count(2), 238);
        due("2 two fit", x.feed(0, 0, 0, 1, 0x100), 240);
    }

    private static void p03End() {
        SlotBuses x = new SlotBuses();
        due("3 empty", x.end(0), true);
        due("3 below 0", x.end(-1), false);
        due("3 above", x.end(1), false);
        Check.feed(x, "sn7d2");
        due("3 above what it has", x.end(6), false);
        due("3 least", x.end(MIN), false);
        due("3 greatest", x.end(MAX), false);
        due("3 it stays", x.count(2), 5);
        due("3 all", x.end(5), true);
        due("3 less", x.end(3), true);
        due("3 has", x.count(2), 3);
        due("3 the first ones", x.text(0), 7);
        due("3 no d", x.rule(1), 0);
    }

    private static void fault(String text, int sort, int want) {
        due("4 fault(" + sort + ") of \"" + text + "\"", Check.fault(text, sort), want);
    }

    private static void p04Fault() {
        fault("s", 0, NONE);
        fault("q", 0, NONE);
        fault("sn2d3b9l3e255;qf7t0l2m9;q", 0, NONE);
        fault("  s  n  8  ;  q  m  1  ", 0, NONE);
        fault("e5l1b2d1n3s", 0, 0);
        fault("", 0, 0);
        fault("   ", 0, 3);
        fault("s;", 0, 2);
        fault("s; ", 0, 3);
        fault(";s", 0, 0);
        fault("s;;q", 0, 2);
        fault("s,q", 0, 1);
        fault("sn", 0, 2);
        fault("sn ", 0, 3);
        fault("sn;", 0, 2);
        fault("sn1", 0, 2);
        fault("sn9", 0, 2);
        fault("sn10", 0, 3);
        fault("sn008", 0, NONE);
        fault("sn0008", 0, 5);
        fault("sn9999", 0, 5);
        fault("sn4 4", 0, 4);
        fault("sn4d4", 0, 4);
        fault("sn4d3b10", 0, 7);
        fault("sl0", 0, 2);
        fault("sl4", 0, 2);
        fault("se256", 0, 4);
        fault("se999q", 0, 4);
        fault("sn4d1n5", 0, 5);
        fault("sf1", 0, 1);
        fault("qn4", 0, 1);
        fault("qf8", 0, 2);
        fault("qt8", 0, 2);
        fault("ql3", 0, 2);
        fault("qm0", 0, 2);
        fault("qm10", 0, 3);
        fault("qf1f1", 0, 3);
        fault("qf1t0;qf1t0", 0, NONE);
        fault("s;q;s", 0, 4);
        fault("q;q;q;q;q;q;q;q;s", 0, NONE);
        fault("q;q;q;q;q;q;q;q;q", 0, 16);
        fault("s;q;q;q;q;q;q;q;q;q", 0, 18);
        fault("S", 0, 0);
        fault("s\u00e4", 0, 1);
        fault("s\t", 0, 1);
        fault("", 1, 0);
        fault("  ", 1, 2);
        fault("q0,1,0,3;t99;c9;h0;e7;w9,9;r9,9,9", 1, NONE);
        fault(" q 0 , 1 , 0 , 3 ; t 9 ; c 1 ", 1, NONE);
        fault("t", 1, 1);
        fault("t0", 1, NONE);
        fault("t00", 1, NONE);
        fault("t000", 1, 3);
        fault("t100", 1, 3);
        fault("t1 0", 1, 3);
        fault("t1,2", 1, 2);
        fault("c", 1, 1);
        fault("c12", 1, 2);
        fault("c05", 1, 2);
        fault("c123", 1, 2);
        fault("q0,00,0,1", 1, 4);
        fault("w1 2", 1, 3);
        fault("w12", 1, 2);
        fault("c1;", 1, 3);
        fault("q0,1,0", 1, 6);
        fault("q0,1,0,", 1, 7);
        fault("q0,1,0,12", 1, 8);
        fault("q0,1,0,1,", 1, 8);
        fault("q0;1", 1, 2);
        fault("w1", 1, 2);
        fault("w1,", 1, 3);
        fault("w1,2,", 1, 4);
        fault("r0,1", 1, 4);
        fault("r0,1,10", 1, 6);
        fault("s", 1, 0);
        fault("t1;;t1", 1, 3);
        fault("t1;t1;t1;t1;t1;t1;t1;t1;t1;t1;t1;t1;t1;t1;t1;t1", 1, NONE);
        fault("t1;t1;t1;t1;t1;t1;t1;t1;t1;t1;t1;t1;t1;t1;t1;t1;t1", 1, 47);
        fault("t1;t1;t1;t1;t1;t1;t1;t1;t1;t1;t1;t1;t1;t1;t1;t1 ;", 1, 48);
        fault("t1;t1;t1;t1;t1;t1;t1;t1;t1;t1;t1;t1;t1;t1;t1;t1x", 1, 47);
        for (int sort : new int[] {-1, 2, -2, MIN, MAX}) fault("s", sort, -2);
        SlotBuses x = new SlotBuses();
        Check.feed(x, "sn    5");
        x.end(2);
        due("4 what stood behind the end is gone", x.fault(0), 2);
        x.end(0);
        Check.feed(x, " ".repeat(240));
        due("4 a full tape of blanks", x.fault(0), 240);
        due("4 a full tape of blanks", x.fault(1), 240);
        x.end(239);
        Check.feed(x, "s");
        due("4 the last byte of a full tape", x.fault(0) * 1000 + x.fault(1), -1000 + 239);
    }

    private static void p05Text() {
        SlotBuses x = new SlotBuses();
        Check.feed(x, "sn9");
        due("5 a fault", x.text(0), NONE);
        due("5 the tape stays", x.count(2), 3);
        for (int sort : new int[] {-1, 2, MIN, MAX}) due("5 no such sort", x.text(sort), NONE);
        due("5 the tape stays", x.count(2), 3);
        due("5 no row yet", x.rule(0), NONE);
        due("5 without s", Check.again(x, "qm3;qf3t0;qf4t0;qf2t2;qf1t0l1"), 4);
        due("5 empty then", x.count(2), 0);
        due("5 four come, in order", x.all(6), 4);
        due("5 the first three", Check.line(x, 0, 0, 0, 0), 3);
        due("5 the fourth", Check.line(x, 3, 1, 0, 5), 4);
        due("5 without acts", x.count(3) + x.count(4), 0);
        due("5 no status", x.status(0) + x.status(1) + x.status(2) + x.status(3), 0);
        due("5 s behind q", Check.again(x, "qf7t6l2;sn8l3"), 8);
        due("5 q by the rules of s", Check.line(x, 7, 1, 2, 5), 1);
        due("5 30 at most", Check.again(x, "qm9;qm9;qm9;qm4;qm3;qm1;qf1t0"), 4);
        due("5 one is left out whole", x.station(0, 0), 30);
        due("5 the next one comes", Check.line(x, 1, 1, 0, 5), 31);
        x.tick(3);
        x.cut(1);
        x.eraser(1);
        x.reserve(1, 1, 3);
        x.come(0, 0, 0, 0);
        x.image();
        due("5 a script", Check.script(x, "t3"), 0);
        due("5 its tape is empty then", x.count(2), 0);
        due("5 another row", Check.again(x, "sn2b1"), 2);
        due("5 TIME 0", x.all(0), 0);
        due("5 nothing waits", x.all(1) + x.all(3) + x.all(5) + x.all(6), 0);
        due("5 nothing is cut", x.rule(5), 0);
        due("5 no erasers", x.rule(4), 0);
        due("5 nothing is reserved", x.reserved(1, 0), NONE);
        due("5 no log", x.count(3), 0);
        due("5 no arrivals", x.count(5), 0);
        due("5 nothing can be undone", x.undo(), NONE);
        due("5 no image", x.back(), NONE);
        due("5 scripts stay", x.count(1), 1);
        due("5 status stays", x.status(1), 1);
        due("5 counts are 0", Check.line(x, 0, 0, 0, 2) + Check.line(x, 0, 0, 0, 4) + x.station(0, 2) + x.station(0, 3), 0);
        due("5 the second script", Check.script(x, "c0;h0"), 1);
        due("5 the third script", Check.script(x, "e1"), 2);
        due("5 a script with a fault", Check.script(x, "e1;"), NONE);
        due("5 the fourth script", Check.script(x, "t1"), 3);
        due("5 there are four", Check.script(x, "t2"), NONE);
        due("5 the tape stays then", x.count(2), 2);
        due("5 a fault leaves the row", x.text(0), NONE);
        due("5 the row stays", x.rule(2), 1);
        for (int i = 0; i < 2; i++) {
            Check.again(x, "sn8;qf3t1m9");
            for (int k = 0; k < 240; k++) x.come(k % 8, (k + 1) % 8, 0, 1);
            due("5 each row has room for all that may wait", x.all(1), 240);
            due("5 each of them", x.waiting(7, 1, 0, 29, 1) * 100 + x.waiting(0, 0, 0, 29, 1), 1);
        }
        x = new SlotBuses();
        due("5 a script without a row", Check.script(x, "t1"), 0);
        due("5 no row by that", x.count(0), 0);
    }

    private static void p06Rule() {
        SlotBuses x = row("sn3d2b7l2e255");
        due("6 STATIONS", x.rule(0), 3);
        due("6 DELAY", x.rule(1), 2);
        due("6 BALANCE", x.rule(2), 7);
        due("6 LEVELS", x.rule(3), 2);
        due("6 ERASERS there are", x.rule(4), 7);
        due("6 CUT", x.rule(5), 0);
        x.eraser(1);
        x.cut(1);
        due("6 ERASERS as now", x.rule(4), 5);
        due("6 CUT as now", x.rule(5), 2);
        for (int what : new int[] {-1, 6, MIN, MAX}) due("6 no such what", x.rule(what), NONE);
        x = row("q");
        due("6 without", x.rule(0) * 1000 + x.rule(1) * 100 + x.rule(2) * 10 + x.rule(3), 4001);
    }

    private static void p07Line() {
        SlotBuses x = row("sn3l2");
        line("7 new", x, 1, 0, 1, 0, 0, 0, 0, 0, 0);
        x.come(1, 2, 1, 1);
        line("7 come", x, 1, 0, 1, 1, 1, 0, 0, 1, 1);
        x.tick(1);
        line("7 sent, asked", x, 1, 0, 1, 0, 0, 0, 0, 0, 0);
        line("7 its lower level counts its own ask", x, 1, 0, 0, 0, 0, 1, 0, 0, 0);
        line("7 heard", x, 0, 0, 1, 0, 0, 1, 0, 0, 0);
        line("7 heard by the lower level", x, 0, 0, 0, 0, 0, 1, 0, 0, 0);
        line("7 not by those ahead on the other bus", x, 2, 0, 1, 0, 0, 0, 0, 0, 0);
        x.come(0, 2, 0, 2);
        line("7 CD is RQ", x, 0, 0, 0, 2, 1, 0, 1, 1, 2);
        x.tick(1);
        line("7 one empty slot passed", x, 0, 0, 0, 2, 1, 0, 0, 0, 2);
        line("7 RQ is one less", x, 0, 0, 1, 0, 0, 0, 0, 0, 0);
        due("7 then it goes", x.tick(1), 1);
        line("7 the next is active", x, 0, 0, 0, 1, 1, 0, 0, 0, 3);
        x = row("sn3l3;qf0t2l0;qf0t2l1;qf1t2l2");
        x.tick(1);
        line("7 of two with CD 0 the greater went", x, 0, 0, 1, 0, 0, 1, 0, 0, 0);
        line("7 the lower counts both asks", x, 0, 0, 0, 1, 1, 0, 2, 0, 1);
        for (int[] a : new int[][] {{-1, 0, 0, 0}, {3, 0, 0, 0}, {0, -1, 0, 0}, {0, 2, 0, 0}, {0, 0, -1, 0}, {0, 0, 3, 0},
            {0, 0, 0, -1}, {0, 0, 0, 6}, {MIN, 0, 0, 0}, {MAX, 0, 0, 0}, {0, MAX, 0, 0}, {0, 0, MAX, 0}, {0, 0, 0, MAX}}) {
            due("7 no such ones", Check.line(x, a[0], a[1], a[2], a[3]), Check.THROWN);
        }
        due("7 no row", Check.line(new SlotBuses(), 0, 0, 0, 0), Check.THROWN);
        due("7 of three levels the third", Check.line(x, 2, 1, 2, 5), 0);
    }

    private static void p08Waiting() {
        SlotBuses x = row("sn5l2;qf2t4m2;qf2t1l1;qf2t3");
        due("8 first", x.waiting(2, 0, 0, 0, 0), 1);
        due("8 third", x.waiting(2, 0, 0, 2, 0), 4);
        due("8 its TO", x.waiting(2, 0, 0, 2, 1), 3);
        due("8 TO of the second", x.waiting(2, 0, 0, 1, 1), 4);
        due("8 the other bus and level", x.waiting(2, 1, 1, 0, 0), 3);
        x.tick(1);
        x.come(2, 4, 0, 1);
        due("8 it moved up", x.waiting(2, 0, 0, 0, 0), 2);
        due("8 the new one's TIME", x.waiting(2, 0, 0, 2, 2), 1);
        due("8 the old one's TIME", x.waiting(2, 0, 0, 1, 2), 0);
        due("8 the fourth", x.waiting(2, 0, 0, 3, 0), NONE);
        for (int[] a : new int[][] {{-1, 0, 0, 0, 0}, {5, 0, 0, 0, 0}, {2, 2, 0, 0, 0}, {2, -1, 0, 0, 0}, {2, 0, 2, 0, 0},
            {2, 0, -1, 0, 0}, {2, 0, 0, -1, 0}, {2, 0, 0, MAX, 0}, {2, 0, 0, 0, -1}, {2, 0, 0, 0, 3}, {MIN, MIN, MIN, MIN, MIN}}) {
            due("8 no such ones", x.waiting(a[0], a[1], a[2], a[3], a[4]), NONE);
        }
        due("8 no row", new SlotBuses().waiting(0, 0, 0, 0, 0), NONE);
    }

    private static void p09Station() {
        SlotBuses x = row("sn3b3;qf0t2m4;qf1t0;qf1t2;qf2t1m2");
        due("9 waiting at 0", x.station(0, 0), 4);
        due("9 waiting at 1, both buses", x.station(1, 0), 2);
        x.tick(2);
        due("9 delivered to 2", x.station(2, 1), 2);
        due("9 delivered to 1", x.station(1, 1), 1);
        due("9 delivered to 0", x.station(0, 1), 1);
        due("9 sent by 0", x.station(0, 2), 2);
        due("9 SENT of 0, bus 0", x.station(0, 3), 2);
        due("9 SENT of 0, bus 1", x.station(0, 4), 0);
        due("9 SENT of 2, bus 1: it heard and let one pass", x.station(2, 4), 1);
        due("9 greatest WAIT", x.station(0, 5), 1);
        due("9 greatest WAIT of 1", x.station(1, 5), 1);
        due("9 without", row("qm3").station(0, 5), 0);
        x.tick(2);
        due("9 SENT at BALANCE is 0", x.station(0, 3) * 10 + x.station(0, 2), 3);
        for (int[] a : new int[][] {{-1, 0}, {3, 0}, {0, -1}, {0, 6}, {MAX, 0}, {0, MIN}}) {
            due("9 no such ones", x.station(a[0], a[1]), NONE);
        }
        due("9 no row", new SlotBuses().station(0, 0), NONE);
    }

    private static void p10Hop() {
        SlotBuses x = row("sn3d2");
        due("10 nothing yet", x.hop(0, 0, 0), 0);
        x.come(1, 2, 0, 1);
        x.tick(1);
        due("10 one", x.hop(0, 0, 0), 1);
        due("10 none behind it yet", x.hop(1, 0, 0), 0);
        due("10 the other bus", x.hop(1, 1, 0) * 10 + x.hop(0, 1, 0), 10);
        x.tick(2);
        due("10 as many as DELAY", x.hop(0, 0, 0), 2);
        due("10 with a segment", x.hop(1, 0, 1), 1);
        due("10 asks", x.hop(0, 1, 2), 1);
        due("10 no asks on the first", x.hop(1, 1, 2), 0);
        x = row("sn4d1;qf0t1");
        x.tick(2);
        due("10 READ ones have a segment, too", x.hop(1, 0, 1), 1);
        due("10 not under way", x.all(2), 0);
        x = row("sn3d1");
        x.reserve(0, 2, 2);
        x.tick(2);
        due("10 reserved", x.hop(0, 0, 3), 1);
        x.tick(1);
        due("10 it went on", x.hop(1, 0, 3) * 10 + x.hop(0, 0, 3), 10);
        x.reserve(0, 2, 0);
        due("10 on their way they stay whose they are", x.hop(1, 0, 3), 1);
        x = row("sn3d1");
        x.reserve(0, 1, 2);
        x.tick(3);
        due("10 behind its station it is like any other", x.hop(1, 0, 3) * 10 + x.hop(1, 0, 0), 1);
        for (int[] a : new int[][] {{-1, 0, 0}, {2, 0, 0}, {0, -1, 0}, {0, 2, 0}, {0, 0, -1}, {0, 0, 4}, {MAX, 0, 0}, {0, MIN, 0}}) {
            due("10 no such ones", x.hop(a[0], a[1], a[2]), NONE);
        }
        due("10 no row", new SlotBuses().hop(0, 0, 0), NONE);
        due("10 without DELAY nothing is on it", row("sn3;qf0t2").tick(1), 1);
        x = row("sn3;qf0t2");
        x.tick(1);
        due("10 without DELAY nothing is on it", x.hop(0, 0, 0), 0);
    }

    private static void refused(String what, SlotBuses x, int answer, int sort) {
        due(what, answer, NONE);
        for (int k = 0; k < 4; k++) due(what + ": status(" + k + ")", x.status(k), k == sort ? 1 : 0);
        due(what + ": no act", x.count(3) + x.count(4), 0);
    }

    private static void p11Come() {
        SlotBuses x = row("sn4l2");
        due("11 one", x.come(0, 3, 0, 1), 1);
        due("11 nine", x.come(3, 0, 1, 9), 10);
        due("11 its bus", Check.line(x, 3, 1, 1, 0), 9);
        due("11 the other bus", Check.line(x, 3, 0, 1, 0), 0);
        int[][] wrong = {{-1, 0, 0, 1, 0}, {4, 0, 0, 1, 0}, {0, 4, 0, 1, 0}, {0, -1, 0, 1, 0}, {MAX, MIN, -1, 0, 0}, {4, 4, 0, 1, 0},
            {0, 1, -1, 1, 1}, {0, 1, 1, 1, 1}, {0, 1, 0, 0, 1}, {0, 1, 0, 10, 1}, {0, 0, 0, 10, 1}, {0, 1, MAX, 1, 1}, {0, 1, 0, MIN, 1},
            {2, 2, 0, 1, 2}};
        for (int[] a : wrong) {
            x = row("sn4");
            refused("11 come(" + a[0] + ", " + a[1] + ", " + a[2] + ", " + a[3] + ")", x, x.come(a[0], a[1], a[2], a[3]), a[4]);
        }
        x = new SlotBuses();
        refused("11 no row", x, x.come(0, 1, 0, 1), 0);
        x = row("qf1t0m9;qf1t2m9;qf1t3m9");
        refused("11 more than 30", x, x.come(1, 0, 0, 4), 3);
        due("11 30 are fine", x.come(1, 0, 0, 3), 30);
        due("11 31 are not", x.come(1, 0, 0, 1), NONE);
        due("11 another station", x.come(0, 1, 0, 1), 31);
        due("11 both are one is told first", x.come(1, 1, 0, 9) * 10 + x.status(2), -9);
    }

    private static void p12Tick() {
        SlotBuses x = row("sn3;qf0t2m3;qf1t2");
        due("12 two ticks", x.tick(2), 2);
        due("12 TIME", x.all(0), 2);
        due("12 as told: 3 asked, so the line lets one pass", x.arrival(0, 0) * 10 + x.arrival(1, 0), 21);
        due("12 the third tick", x.tick(1) * 10 + x.arrival(0, 0), 14);
        due("12 sixty", x.tick(60), 1);
        for (int n : new int[] {0, -1, 61, MIN, MAX}) {
            x = row("s");
            refused("12 tick(" + n + ")", x, x.tick(n), 1);
        }
        x = new SlotBuses();
        refused("12 no row", x, x.tick(0), 0);
        x = row("sn2");
        for (int i = 0; i < 166; i++) x.tick(60);
        due("12 TIME 9960", x.all(0), 9960);
        due("12 above 9,999", x.tick(40), NONE);
        due("12 too much", x.status(3), 1);
        due("12 to 9,999", x.tick(39), 0);
        due("12 no more", x.tick(1), NONE);
        due("12 out of bounds is told first", x.tick(61) * 10 + x.status(1), -9);
        due("12 TIME stays", x.all(0), 9999);
        p12Levels();
        p12Balance();
        p12Erasers();
        p12Cuts();
        p12Reserved();
    }

    /** A greater LEVEL with a count passes the turn on to a lower one without. */
    private static void p12Levels() {
        SlotBuses x = row("sn3l2;qf1t2l1m2;qf0t2");
        x.tick(1);
        due("12 both levels send in one tick, of other stations", x.all(3), 1);
        x = row("sn3l2");
        x.come(1, 2, 0, 1);
        x.tick(1);
        line("12 a lower ask is not heard above", x, 0, 0, 1, 0, 0, 0, 0, 0, 0);
        line("12 a lower ask is heard at its own", x, 0, 0, 0, 0, 0, 1, 0, 0, 0);
        x.come(0, 2, 0, 1);
        x.come(0, 2, 1, 1);
        due("12 the greater goes", x.tick(1) * 10 + x.arrival(0, 0), 13);
        line("12 the lower still lets pass: one heard, one own ask", x, 0, 0, 0, 1, 1, 0, 2, 0, 2);
    }

    private static void p12Balance() {
        SlotBuses x = row("sn2b2;qm5");
        due("12 two go, one slot is left free, two go", x.tick(1) * 100000 + x.tick(1) * 10000 + x.tick(1) * 1000 + x.tick(1) * 100
            + x.tick(1) * 10 + x.tick(1), 110110);
        due("12 the fifth", x.tick(1), 1);
        x = row("sn2b1l2");
        x.come(0, 1, 1, 1);
        x.tick(1);
        line("12 what is not active counts in RQ", x, 0, 0, 1, 0, 0, 1, 0, 0, 0);
        line("12 each level, and the own ask below", x, 0, 0, 0, 0, 0, 2, 0, 0, 0);
    }

    private static void p12Erasers() {
        SlotBuses x = row("sn4e2;qf0t1;qf1t3;qf2t3");
        due("12 read at 1, emptied there, filled there", x.tick(1) * 10 + x.all(10), 21);
        x = row("sn4e4;qf0t1;qf1t3;qf2t3");
        due("12 read at 1, emptied at 2, filled there", x.tick(1) * 10 + x.arrival(0, 0), 23);
        x = row("sn4e1;qf0t1;qf1t3;qf2t3");
        due("12 an eraser ahead of where it goes is none", x.tick(1) * 10 + x.all(10), 10);
        x = row("sn4e8;qf0t1;qf0t3");
        x.tick(2);
        due("12 two are emptied at the last station", x.all(10), 2);
    }

    private static void p12Cuts() {
        SlotBuses x = row("sn4;qf0t3;qf2t3;qf3t0");
        x.cut(1);
        due("12 a new head behind the cut", x.tick(1) * 10 + x.arrival(0, 0), 12);
        due("12 two are lost at the cut", x.all(4), 2);
        line("12 asks end at the cut", x, 0, 0, 0, 0, 0, 0, 0, 0, 0);
        line("12 those on this side are heard", x, 2, 1, 0, 0, 0, 0, 0, 0, 0);
        x.heal(1);
        x.come(0, 3, 0, 1);
        due("12 healed", x.tick(1), 1);
        x = row("sn3d1;qf0t2");
        x.cut(0);
        x.tick(1);
        x.heal(0);
        x.come(1, 2, 0, 1);
        due("12 nothing comes ere DELAY is over", x.tick(1) * 10 + x.hop(1, 0, 0), 0);
        due("12 then a slot comes", x.tick(1) * 10 + x.hop(1, 0, 1), 1);
        due("12 then it is there", x.tick(1), 1);
    }

    private static void p12Reserved() {
        SlotBuses x = row("sn3l2;qf1t2;qf1t2l1");
        x.reserve(0, 1, 2);
        x.reserve(1, 0, 2);
        x.come(0, 2, 0, 3);
        due("12 the first slot is free", x.tick(1) * 10 + x.arrival(0, 0), 13);
        line("12 at 0 its next counts what was asked", x, 0, 0, 0, 2, 1, 1, 1, 2, 4);
        due("12 the second is of 1: the greatest level", x.tick(1) * 10 + x.arrival(0, 0), 12);
        line("12 no count is less at 0", x, 0, 0, 0, 2, 1, 1, 1, 1, 4);
        x = row("sn3b1;qf1t2");
        x.reserve(0, 1, 2);
        x.tick(1);
        due("12 a free slot counts", x.all(3) * 10 + Check.line(x, 1, 0, 0, 2), 11);
        x.come(1, 2, 0, 1);
        due("12 CD is 1", Check.line(x, 1, 0, 0, 3), 1);
        due("12 whatever CD is", x.tick(1), 1);
        due("12 SENT stays, so no count is more", Check.line(x, 1, 0, 0, 2), 0);
        due("12 it is sent, though", x.station(1, 2), 2);
        x = row("sn3");
        x.reserve(0, 2, 2);
        x.cut(0);
        x.come(1, 2, 0, 2);
        due("12 slots behind a cut are not counted", x.tick(2), 2);
    }

    private static void p13Cut() {
        SlotBuses x = row("sn3d3;qf0t2m2;qf1t0");
        x.tick(2);
        due("13 two are under way", x.all(2), 2);
        due("13 two are lost", x.cut(0), 2);
        due("13 LOST", x.all(4) * 10 + x.all(2), 20);
        due("13 nothing is on it", x.hop(0, 0, 0) + x.hop(0, 1, 0), 0);
        due("13 it is", x.cut(0), NONE);
        due("13 status 2", x.status(2), 1);
        due("13 another one", x.cut(1), 0);
        x = row("sn3d3;qf0t1;qf1t2");
        x.tick(4);
        due("13 what was read is not lost", x.hop(1, 0, 1) * 10 + x.cut(1), 10);
        x = row("sn3d2;qf2t0;qf0t2");
        x.tick(3);
        due("13 of both buses", x.cut(0) * 10 + x.cut(1), 11);
        for (int hop : new int[] {-1, 2, MIN, MAX}) {
            x = row("sn3");
            refused("13 cut(" + hop + ")", x, x.cut(hop), 0);
        }
        x = new SlotBuses();
        refused("13 no row", x, x.cut(0), 0);
    }

    private static void p14Heal() {
        SlotBuses x = row("sn3d1;qf0t2");
        refused("14 it is not cut", x, x.heal(0), 2);
        x.cut(0);
        x.tick(7);
        due("14 TIME", x.heal(0), 7);
        due("14 not cut", x.rule(5), 0);
        due("14 nothing is on it", x.hop(0, 0, 0), 0);
        due("14 again", x.heal(0), NONE);
        for (int hop : new int[] {-1, 2, MIN, MAX}) {
            x = row("sn3");
            refused("14 heal(" + hop + ")", x, x.heal(hop), 0);
        }
        x = new SlotBuses();
        refused("14 no row", x, x.heal(0), 0);
    }

    private static void p15Eraser() {
        SlotBuses x = row("sn3e4");
        due("15 is one", x.eraser(0), 1);
        due("15 is none any more", x.eraser(2), 0);
        due("15 bits", x.rule(4), 1);
        due("15 again", x.eraser(2), 1);
        for (int station : new int[] {-1, 3, MIN, MAX}) {
            x = row("sn3");
            refused("15 eraser(" + station + ")", x, x.eraser(station), 0);
        }
        x = new SlotBuses();
        refused("15 no row", x, x.eraser(0), 0);
    }

    private static void p16Withdraw() {
        SlotBuses x = row("sn4l2;qf1t3;qf1t2m2;qf1t3m2;qf1t0;qf1t3l1m3");
        due("16 all but the active ones", x.withdraw(1, 3), 4);
        due("16 what is left of level 0", Check.line(x, 1, 0, 0, 0), 3);
        due("16 the active one stays", x.waiting(1, 0, 0, 0, 0), 1);
        due("16 then those to 2", x.waiting(1, 0, 0, 1, 0) * 10 + x.waiting(1, 0, 0, 2, 0), 23);
        due("16 of level 1", Check.line(x, 1, 0, 1, 0), 1);
        due("16 waiting", x.all(1), 5);
        due("16 they are not lost", x.all(4), 0);
        x.come(1, 2, 0, 1);
        due("16 the line goes on behind them", x.waiting(1, 0, 0, 3, 0), 10);
        due("16 none such any more", x.withdraw(1, 3), NONE);
        due("16 status 2", x.status(2), 1);
        due("16 the active one to 0 stays", x.withdraw(1, 0), NONE);
        due("16 to itself", x.withdraw(1, 1), NONE);
        due("16 status 2, three times", x.status(2), 3);
        for (int i = 0; i < 30; i++) x.come(2, 3, 0, 1);
        x.withdraw(2, 3);
        due("16 there is room again", x.come(2, 3, 0, 9), 49);
        x = row("sn8l3;qf7t0m3;qf7t0l2m3;qf7t6l1m2");
        due("16 of the last station, all levels", x.withdraw(7, 0) * 10 + x.all(1), 44);
        for (int[] a : new int[][] {{-1, 0}, {4, 0}, {0, 4}, {0, -1}, {MIN, MAX}, {MAX, MAX}}) {
            x = row("qm3");
            refused("16 withdraw(" + a[0] + ", " + a[1] + ")", x, x.withdraw(a[0], a[1]), 0);
        }
        x = new SlotBuses();
        refused("16 no row", x, x.withdraw(0, 1), 0);
    }

    private static void p17Reserve() {
        SlotBuses x = row("sn3");
        due("17 set", x.reserve(0, 1, 2), 0);
        due("17 again", x.reserve(0, 1, 2), NONE);
        due("17 it is so", x.status(2), 1);
        due("17 another EVERY", x.reserve(0, 1, 9), 2);
        due("17 another station", x.reserve(0, 2, 9), 9);
        due("17 the other bus", x.reserve(1, 2, 9), 0);
        due("17 none any more, by whatever station", x.reserve(0, 0, 0), 9);
        due("17 it is none", x.reserve(0, 0, 0), NONE);
        due("17 status 2", x.status(2), 2);
        int[][] wrong = {{0, -1, 2, 0}, {0, 3, 2, 0}, {5, 3, 1, 0}, {0, MAX, 0, 0}, {-1, 0, 2, 1}, {2, 0, 2, 1}, {0, 0, 1, 1}, {0, 0, 10, 1},
            {0, 0, -1, 1}, {MIN, 0, 0, 1}, {0, 0, MAX, 1}, {2, 0, 0, 1}, {0, 0, 0, 2}};
        for (int[] a : wrong) {
            x = row("sn3");
            refused("17 reserve(" + a[0] + ", " + a[1] + ", " + a[2] + ")", x, x.reserve(a[0], a[1], a[2]), a[3]);
        }
        x = new SlotBuses();
        refused("17 no row", x, x.reserve(0, 0, 2), 0);
    }

    private static void p18Reserved() {
        SlotBuses x = row("sn3");
        due("18 none", x.reserved(0, 0), NONE);
        x.reserve(1, 0, 3);
        due("18 the station", x.reserved(1, 0), 0);
        due("18 EVERY", x.reserved(1, 1), 3);
        due("18 till one is its", x.reserved(1, 2), 3);
        due("18 the other bus", x.reserved(0, 1), NONE);
        x.tick(2);
        due("18 the next one", x.reserved(1, 2), 1);
        x.tick(1);
        due("18 three again", x.reserved(1, 2), 3);
        x.tick(1);
        x.reserve(1, 1, 3);
        due("18 since it was", x.reserved(1, 2), 3);
        x.tick(1);
        x.cut(1);
        x.tick(1);
        due("18 new slots behind a cut are not counted", x.reserved(1, 2), 1);
        x.reserve(1, 1, 0);
        due("18 none any more", x.reserved(1, 1), NONE);
        x.reserve(1, 1, 3);
        for (int[] a : new int[][] {{-1, 0}, {2, 0}, {1, -1}, {1, 3}, {MAX, 0}, {1, MIN}}) {
            due("18 no such ones", x.reserved(a[0], a[1]), NONE);
        }
        due("18 no row", new SlotBuses().reserved(0, 0), NONE);
    }

    private static BigInteger drawn;

    private static int draw(int of) {
        BigInteger round = BigInteger.ONE.shiftLeft(64);
        drawn = drawn.multiply(new BigInteger("6364136223846793005")).add(new BigInteger("1442695040888963407")).mod(round);
        return drawn.shiftRight(33).mod(BigInteger.valueOf(of)).intValue();
    }

    private static void oneYear(SlotBuses y) {
        int sort = draw(8);
        if (sort < 4) {
            int from = draw(y.rule(0));
            int to = draw(y.rule(0));
            int level = draw(y.rule(3));
            y.come(from, to, level, draw(9) + 1);
        } else if (sort < 6) {
            y.tick(draw(9) + 1);
        } else if (sort == 6) {
            y.eraser(draw(y.rule(0)));
        } else {
            int hop = draw(y.rule(0) - 1);
            if ((y.rule(5) >> hop & 1) == 0) y.cut(hop); else y.heal(hop);
        }
    }

    private static void p19Years() {
        for (long seed : new long[] {0, 1, -1, Long.MIN_VALUE, Long.MAX_VALUE, 123456789012345L}) {
            SlotBuses x = row("sn6l3d1");
            SlotBuses y = row("sn6l3d1");
            drawn = BigInteger.valueOf(seed).mod(BigInteger.ONE.shiftLeft(64));
            for (int i = 0; i < 40; i++) oneYear(y);
            due("19 years(40, " + seed + ")", x.years(40, seed), y.all(0));
            for (int what = 0; what < 11; what++) due("19 all", x.all(what), y.all(what));
            for (int what = 0; what < 6; what++) due("19 count", x.count(what), y.count(what));
            for (int i = 0; i < 40; i++) for (int k = 0; k < 3; k++) due("19 log", x.log(i, k), y.log(i, k));
            due("19 no status", x.status(0) + x.status(1) + x.status(2) + x.status(3), 0);
        }
        for (int n : new int[] {0, -1, 41, MIN, MAX}) due("19 out of bounds", row("s").years(n, 1), NONE);
        due("19 no row", new SlotBuses().years(1, 1), NONE);
        SlotBuses x = row("s");
        due("19 one", x.years(1, 5) == NONE, false);
        SlotBuses y = row("s");
        drawn = BigInteger.valueOf(5);
        oneYear(y);
        due("19 one, as drawn", x.log(0, 0) * 10 + x.log(0, 1), y.log(0, 0) * 10 + y.log(0, 1));
        due("19 refusals of years are no status", new SlotBuses().status(0), 0);
    }

    private static void p20Status() {
        SlotBuses x = new SlotBuses();
        x.tick(1);
        x.cut(1);
        due("20 no row", x.status(0), 2);
        Check.again(x, "sn3;qm9;qm9;qm9");
        due("20 it stays", x.status(0), 2);
        x.come(0, 1, 0, 10);
        x.heal(0);
        x.come(0, 1, 0, 4);
        x.come(0, 2, 0, 3);
        due("20 each its own", x.status(0) * 1000 + x.status(1) * 100 + x.status(2) * 10 + x.status(3), 2111);
        x.undo();
        due("20 not undone", x.status(3), 1);
        x.image();
        x.tick(0);
        x.back();
        due("20 not by back", x.status(1), 2);
        x.years(40, 3);
        x.hurt(9, 9, 9, 9);
        x.undo();
        Check.script(x, "c9");
        x.perform(0);
        x.run(0, 0);
        x.ahead(999, 0);
        due("20 by no others", x.status(0) * 1000 + x.status(1) * 100 + x.status(2) * 10 + x.status(3), 2211);
        for (int what : new int[] {-1, 4, MIN, MAX}) due("20 no such what", x.status(what), NONE);
    }

    private static void p21Undo() {
        SlotBuses x = row("sn3d1b2e1;qf0t2m2");
        due("21 none", x.undo(), NONE);
        x.tick(3);
        x.come(2, 0, 0, 1);
        x.withdraw(0, 0);
        x.reserve(0, 1, 3);
        x.cut(0);
        x.heal(0);
        x.eraser(0);
        due("21 seven less one refused", x.count(4), 6);
        due("21 the eraser", x.undo() * 10 + x.rule(4), 51);
        due("21 healed", x.undo() * 10 + x.rule(5), 41);
        due("21 cut", x.undo() * 10 + x.rule(5), 30);
        due("21 what was on it is there again", x.hop(0, 0, 0), 1);
        due("21 reserved", x.undo() * 10 + x.reserved(0, 1), 19);
        due("21 come", x.undo() * 10 + x.all(6), 12);
        due("21 the log, too", x.count(3) * 10 + x.log(0, 0), 11);
        due("21 ticks", x.undo(), 0);
        due("21 as at first", x.all(0) + x.all(3) + x.station(0, 2) + x.station(0, 3) + x.count(3) + x.count(5), 0);
        due("21 they wait again", x.all(1) * 10 + Check.line(x, 0, 0, 0, 4), 21);
        due("21 none any more", x.undo(), NONE);
        x = row("sn2");
        for (int i = 0; i < 50; i++) x.tick(1);
        due("21 40 can be", x.count(4), 40);
        for (int i = 39; i >= 0; i--) due("21 one by one", x.undo(), i);
        due("21 no more", x.undo(), NONE);
        due("21 ten stay", x.all(0), 10);
        x.years(5, 4);
        x.tick(1);
        due("21 years are acts", x.count(4) > 1, true);
        due("21 then others", x.undo() >= 1, true);
        due("21 no row", new SlotBuses().undo(), NONE);
    }

    private static void p22Log() {
        SlotBuses x = row("sn4;qm2");
        due("22 none", x.log(0, 0), HIDDEN);
        x.come(3, 1, 0, 5);
        x.tick(2);
        x.cut(2);
        x.heal(2);
        x.eraser(1);
        x.withdraw(3, 1);
        x.reserve(1, 2, 5);
        x.tick(0);
        int[][] want = {{6, 2, 1}, {5, 3, 1}, {4, 1, 3}, {3, 2, 3}, {2, 2, 3}, {1, 2, 3}, {0, 3, 7}};
        for (int i = 0; i < want.length; i++) {
            for (int what = 0; what < 3; what++) due("22 log(" + i + ", " + what + ")", x.log(i, what), want[i][what]);
        }
        for (int[] a : new int[][] {{7, 0}, {-1, 0}, {0, -1}, {0, 3}, {MAX, 0}, {0, MIN}}) due("22 no such ones", x.log(a[0], a[1]), HIDDEN);
        for (int i = 1; i <= 60; i++) x.tick(i);
        due("22 the latest 60", x.count(3), 60);
        due("22 the latest", x.log(0, 1), 60);
        due("22 the sixtieth", x.log(59, 1), 1);
        due("22 no more", x.log(60, 1), HIDDEN);
        x.undo();
        due("22 undone", x.log(0, 1) * 100 + x.log(58, 1), 5901);
    }

    private static void p23Arrival() {
        SlotBuses x = row("sn3;qf1t2;qf2t0m2;qf0t1");
        due("23 none", x.arrival(0, 0), NONE);
        x.tick(2);
        int[][] want = {{3, 2, 0, 1}, {1, 1, 2, 1}, {2, 2, 0, 0}, {4, 0, 1, 0}};
        for (int i = 0; i < want.length; i++) {
            for (int what = 0; what < 4; what++) due("23 arrival(" + i + ", " + what + ")", x.arrival(i, what), want[i][what]);
        }
        for (int[] a : new int[][] {{4, 0}, {-1, 0}, {0, -1}, {0, 4}, {MAX, 0}, {0, MIN}}) {
            due("23 no such ones", x.arrival(a[0], a[1]), NONE);
        }
        x = row("sn2");
        for (int i = 0; i < 5; i++) {
            x.come(0, 1, 0, 9);
            x.tick(60);
        }
        due("23 the latest 40", x.count(5), 40);
        due("23 the latest", x.arrival(0, 0), 45);
        due("23 the fortieth", x.arrival(39, 0), 6);
        due("23 no more", x.arrival(40, 0), NONE);
        due("23 no row", new SlotBuses().arrival(0, 0), NONE);
    }

    private static void p24Ahead() {
        SlotBuses x = row("sn3d1;qf0t2m3;qf2t1");
        x.tick(1);
        due("24 by none", x.ahead(0, 0) * 100 + x.ahead(0, 1) * 10 + x.ahead(0, 2), 20);
        due("24 delivered in one", x.ahead(1, 0), 1);
        due("24 waiting behind one", x.ahead(1, 1), 1);
        due("24 delivered in all", x.ahead(200, 0), 4);
        x.cut(1);
        due("24 lost by these", x.ahead(200, 2) * 10 + x.all(4), 31);
        due("24 apart", x.all(0) * 10 + x.all(1), 12);
        for (int[] a : new int[][] {{-1, 0}, {201, 0}, {1, -1}, {1, 3}, {MAX, 0}, {MIN, 0}, {1, MAX}}) {
            due("24 out of bounds", x.ahead(a[0], a[1]), NONE);
        }
        due("24 no row", new SlotBuses().ahead(0, 0), NONE);
        late(x);
        due("24 TIME would be 9,999", x.ahead(19, 1), 0);
        due("24 TIME would be above", x.ahead(20, 1), NONE);
    }

    /** To TIME 9980. */
    private static void late(SlotBuses x) {
        for (int i = 0; i < 167 && x.all(0) <= 9920; i++) x.tick(60);
        x.tick(9980 - x.all(0));
    }

    private static void p25When() {
        SlotBuses x = row("sn3d2;qf0t2m2;qf1t2");
        due("25 the first", x.when(1), 5);
        due("25 the second", x.when(2), 6);
        due("25 the third", x.when(3), 7);
        for (int number : new int[] {0, -1, 4, MIN, MAX}) due("25 no such one", x.when(number), NONE);
        x.tick(3);
        due("25 under way", x.when(1), 2);
        x.tick(2);
        due("25 delivered", x.when(1), NONE);
        x = row("sn3;qf0t2");
        x.cut(0);
        due("25 it would be lost", x.when(1), NONE);
        due("25 no row", new SlotBuses().when(1), NONE);
        x = crowd();
        due("25 not within 200", x.when(26), NONE);
        x.tick(1);
        due("25 just within 200", x.when(26), 200);
        x = row("sn2");
        late(x);
        for (int i = 0; i < 3; i++) x.come(0, 1, 0, 9);
        due("25 to TIME's end", x.when(19), 19);
        due("25 not behind it", x.when(20), NONE);
        x.tick(19);
        due("25 no tick more", x.when(20), NONE);
    }

    /** 189 that wait, more than 200 TICKS can bring. */
    private static SlotBuses crowd() {
        SlotBuses x = row("sn8b1");
        for (int from = 0; from < 7; from++) {
            for (int i = 0; i < 3; i++) x.come(from, 7, 0, 9);
        }
        return x;
    }

    private static void p26Next() {
        SlotBuses x = row("sn3l2;qf0t1m2;qf0t2l1;qf2t0");
        due("26 of one tick bus 0 is first", x.next(0), 3);
        due("26 then bus 1", x.next(1), 4);
        due("26 then the others", x.next(2) * 10 + x.next(3), 12);
        for (int i : new int[] {4, -1, MIN, MAX}) due("26 no such one", x.next(i), NONE);
        due("26 no row", new SlotBuses().next(0), NONE);
        x.tick(1);
        due("26 from as it is now", x.next(0), 1);
        x = row("sn2");
        late(x);
        for (int i = 0; i < 3; i++) x.come(0, 1, 0, 9);
        due("26 the last to TIME's end", x.next(18), 19);
        due("26 not behind it", x.next(19), NONE);
        x = crowd();
        x.tick(1);
        due("26 the last within 200", x.next(174), 26);
        due("26 none behind 200", x.next(175) * 1000 + x.ahead(200, 0), -825);
    }

    private static void p27Drained() {
        SlotBuses x = row("sn3d3;qf0t2m3");
        due("27 behind three", x.drained(), 3);
        x.tick(3);
        due("27 nothing waits, though some are under way", x.drained() * 10 + x.all(2), 3);
        due("27 nothing ever waited", row("s").drained(), 0);
        due("27 no row", new SlotBuses().drained(), NONE);
        x = crowd();
        due("27 not within 200", x.drained(), NONE);
        for (int i = 0; i < 60 && x.drained() == NONE; i++) x.tick(1);
        due("27 just within 200", x.drained(), 200);
        x = row("sn2b1;qm9;qm9;qm9;qm3");
        due("27 with balance", x.drained(), 59);
        late(x);
        x.come(0, 1, 0, 9);
        due("27 within TIME", x.drained(), 17);
        x.come(0, 1, 0, 1);
        due("27 just to TIME's end", x.drained(), 19);
        x.come(0, 1, 0, 1);
        due("27 not to TIME's end", x.drained(), NONE);
        x.tick(19);
        due("27 at TIME's end one waits", x.drained() * 10 + x.all(1), -9);
    }

    private static void p28Share() {
        SlotBuses x = row("sn3;qf1t2m3;qf1t0m3;qf0t2m4");
        due("28 of both buses", x.share(1, 3), 4);
        due("28 of 0", x.share(0, 3), 2);
        due("28 of 2", x.share(2, 200), 0);
        due("28 in all", x.share(0, 200) * 10 + x.share(1, 200), 46);
        x.reserve(0, 0, 2);
        due("28 reserved ones, too", x.share(0, 200), 4);
        for (int[] a : new int[][] {{-1, 1}, {3, 1}, {0, 0}, {0, 201}, {0, -1}, {MAX, 1}, {0, MIN}}) {
            due("28 out of bounds", x.share(a[0], a[1]), NONE);
        }
        due("28 no row", new SlotBuses().share(0, 1), NONE);
        late(x);
        due("28 TIME would be 9,999", x.share(0, 19), 0);
        due("28 TIME would be above", x.share(0, 20), NONE);
    }

    private static void p29Fair() {
        SlotBuses x = row("sb8");
        due("29 8 by 1 + 8 * 3", x.fair(3, 0) * 100 + x.fair(3, 1), 825);
        due("29 8 by 1 + 8 * 99", x.fair(99, 0) * 1000 + x.fair(99, 1), 8793);
        due("29 for one", x.fair(1, 0) * 10 + x.fair(1, 1), 89);
        x = row("s");
        due("29 BALANCE 0", x.fair(7, 0) * 10 + x.fair(7, 1), 1);
        for (int[] a : new int[][] {{0, 0}, {100, 0}, {-1, 0}, {1, -1}, {1, 2}, {MAX, 0}, {MIN, 1}, {1, MAX}}) {
            due("29 out of bounds", x.fair(a[0], a[1]), NONE);
        }
        due("29 no row", new SlotBuses().fair(1, 0), NONE);
    }

    private static void p30FirstCome() {
        due("30 no row", new SlotBuses().firstCome(), false);
        due("30 nothing waits", row("s").firstCome(), true);
        due("30 one line", row("qm9").firstCome(), true);
        SlotBuses x = row("sn4;qf3t0;qf1t3;qf2t3");
        due("30 the next upstream is ahead", x.firstCome(), true);
        x = row("sn4;qf2t3;qf0t3");
        due("30 the one upstream takes the slot first", x.firstCome(), false);
        x = row("sn4l2;qf2t3;qf0t3l1");
        due("30 of other levels", x.firstCome(), true);
        x = row("sn4;qf2t3;qf0t1;qf3t2");
        due("30 the slot was full, one tick later", x.firstCome(), false);
        x = row("sn4e2;qf2t3;qf0t1");
        due("30 in one tick none is later", x.firstCome(), true);
        x = row("sn3d3;qf0t2");
        x.tick(1);
        x.come(1, 2, 0, 1);
        due("30 what is under way does not count", x.firstCome(), true);
        due("30 apart", x.all(0), 1);
        x = row("sn4");
        late(x);
        x.tick(17);
        x.come(2, 3, 0, 1);
        x.come(0, 3, 0, 1);
        due("30 the later one just at TIME's end", x.firstCome(), false);
        x.undo();
        x.undo();
        x.tick(1);
        x.come(2, 3, 0, 1);
        x.come(0, 3, 0, 1);
        due("30 the later one not to TIME's end", x.firstCome(), true);
    }

    private static void p31Worst() {
        SlotBuses x = row("sn5;qf0t2m3;qf4t1m3;qf3t4");
        due("31 the hop", x.worst(0), 1);
        due("31 how many", x.worst(1), 6);
        x.cut(1);
        due("31 of several the lowest", x.worst(0), 3);
        due("31 how many then", x.worst(1), 4);
        x.cut(3);
        due("31 of two the lowest", x.worst(0) * 10 + x.worst(1), 3);
        x.cut(0);
        x.cut(2);
        due("31 all are cut", x.worst(0), NONE);
        due("31 all are cut, how many", x.worst(1), NONE);
        x = row("sn3");
        due("31 nothing waits", x.worst(0) * 10 + x.worst(1), 0);
        for (int what : new int[] {-1, 2, MIN, MAX}) due("31 no such what", x.worst(what), NONE);
        due("31 no row", new SlotBuses().worst(0), NONE);
    }

    private static void p32Gain() {
        SlotBuses x = row("sn4;qf0t1;qf1t2;qf2t3");
        due("32 of several the lowest", x.gain(1, 0), 1);
        due("32 how many", x.gain(1, 1), 2);
        x.eraser(1);
        due("32 one that is none yet", x.gain(1, 0), 2);
        due("32 how many then", x.gain(1, 1), 3);
        due("32 far ahead all are alike", x.gain(200, 0) * 10 + x.gain(200, 1), 3);
        due("32 apart", x.rule(4) * 10 + x.all(0), 20);
        for (int[] a : new int[][] {{0, 0}, {201, 0}, {-1, 0}, {1, -1}, {1, 2}, {MAX, 0}, {MIN, 0}, {1, MAX}}) {
            due("32 out of bounds", x.gain(a[0], a[1]), NONE);
        }
        due("32 no row", new SlotBuses().gain(1, 0), NONE);
        x.eraser(0);
        x.eraser(2);
        due("32 the last one", x.gain(5, 0), 3);
        x.eraser(3);
        due("32 all are", x.gain(5, 0), NONE);
        x = row("sn2");
        due("32 nothing to deliver", x.gain(5, 0) * 10 + x.gain(5, 1), 0);
        late(x);
        due("32 TIME would be 9,999", x.gain(19, 1), 0);
        due("32 TIME would be above", x.gain(20, 1), NONE);
    }

    private static void p33Spread() {
        SlotBuses x = row("sn4;qf0t3m3;qf3t1m2");
        due("33 no arrivals", x.spread(0), NONE);
        x.tick(1);
        due("33 of two the second", x.spread(2), 0);
        x.tick(1);
        x.tick(1);
        due("33 least", x.spread(0), 0);
        due("33 greatest", x.spread(1), 2);
        due("33 the middle one of five", x.spread(2), 1);
        due("33 stations", x.spread(3), 9);
        for (int what : new int[] {-1, 4, MIN, MAX}) due("33 no such what", x.spread(what), NONE);
        due("33 no row", new SlotBuses().spread(0), NONE);
        x = row("sn2;qf1t0");
        x.tick(1);
        for (int i = 0; i < 5; i++) {
            x.come(0, 1, 0, 9);
            x.tick(60);
        }
        due("33 of those that are told", x.spread(3), 1);
        due("33 of forty the one numbered 20", x.spread(2), 5);
    }

    private static void p34Mean() {
        SlotBuses x = row("sn3b1;qf0t2m4;qf2t0");
        due("34 none", x.mean(0, 0), NONE);
        x.tick(1);
        due("34 0 by 1", x.mean(0, 0) * 10 + x.mean(0, 1), 1);
        x.tick(2);
        due("34 0 and 2 by two", x.mean(0, 0) * 10 + x.mean(0, 1), 11);
        x.tick(9);
        due("34 0, 2, 4, 6 by four", x.mean(0, 0) * 10 + x.mean(0, 1), 31);
        due("34 of 2", x.mean(2, 0) * 10 + x.mean(2, 1), 1);
        due("34 of 1 none", x.mean(1, 0), NONE);
        for (int[] a : new int[][] {{-1, 0}, {3, 0}, {0, -1}, {0, 2}, {MAX, 0}, {0, MIN}}) due("34 no such ones", x.mean(a[0], a[1]), NONE);
        due("34 no row", new SlotBuses().mean(0, 0), NONE);
        x = row("sn2b3;qm4");
        x.tick(9);
        due("34 0, 1, 2, 4 by four", x.mean(0, 0) * 10 + x.mean(0, 1), 74);
    }

    private static void p35Hurt() {
        SlotBuses x = row("sn3;qf0t2m6");
        due("35 of four two are less", x.hurt(0, 2, 2, 4), 2);
        due("35 the other bus", x.hurt(1, 2, 2, 4), 0);
        due("35 for itself", x.hurt(0, 0, 2, 4), 0);
        due("35 apart", x.reserved(0, 0), NONE);
        x.reserve(0, 1, 2);
        due("35 none any more: more", x.hurt(0, 1, 0, 4), -2);
        due("35 it is so", x.hurt(0, 1, 2, 4), HIDDEN);
        due("35 another EVERY", x.hurt(0, 1, 4, 4), -1);
        for (int[] a : new int[][] {{0, 1, 3, 0}, {0, 1, 3, 201}, {0, 1, 3, -1}, {2, 1, 3, 1}, {-1, 1, 3, 1}, {0, 3, 3, 1}, {0, -1, 3, 1},
            {0, 1, 1, 1}, {0, 1, 10, 1}, {1, 1, 0, 1}, {0, 1, 3, MAX}, {MIN, MIN, MIN, MIN}}) {
            due("35 refused", x.hurt(a[0], a[1], a[2], a[3]), HIDDEN);
        }
        due("35 no status", x.status(0) + x.status(1) + x.status(2), 0);
        due("35 no row", new SlotBuses().hurt(0, 0, 2, 1), HIDDEN);
        late(x);
        due("35 TIME would be 9,999", x.hurt(0, 1, 3, 19), 0);
        due("35 TIME would be above", x.hurt(0, 1, 3, 20), HIDDEN);
    }

    private static void p36Step() {
        SlotBuses x = new SlotBuses();
        due("36 none", x.step(0, 0, 0), HIDDEN);
        Check.script(x, "t 99 ; q 1,2,0,9; c 6;h5;e4;w3,2;r1,0,8");
        int[][] want = {{1, 99, NONE, NONE, NONE}, {0, 1, 2, 0, 9}, {2, 6, NONE, NONE, NONE}, {3, 5, NONE, NONE, NONE},
            {4, 4, NONE, NONE, NONE}, {5, 3, 2, NONE, NONE}, {6, 1, 0, 8, NONE}};
        for (int i = 0; i < want.length; i++) {
            for (int what = 0; what < 5; what++) due("36 step(0, " + i + ", " + what + ")", x.step(0, i, what), want[i][what]);
        }
        for (int[] a : new int[][] {{-1, 0, 0}, {1, 0, 0}, {0, -1, 0}, {0, 7, 0}, {0, 0, -1}, {0, 0, 5}, {MAX, 0, 0}, {0, MAX, 0}, {0, 0, MIN}}) {
            due("36 no such ones", x.step(a[0], a[1], a[2]), HIDDEN);
        }
        Check.script(x, "e7");
        due("36 of the second", x.step(1, 0, 1) * 10 + x.step(0, 0, 0), 71);
        due("36 shorter than the first", x.step(1, 1, 0), HIDDEN);
    }

    private static void p37Run() {
        SlotBuses x = new SlotBuses();
        Check.script(x, "q0,1,0,3;t1;c0;c0;t1");
        due("37 no row", x.run(0, 0), HIDDEN);
        Check.again(x, "sn3;qf2t0m2");
        due("37 behind three", x.run(0, 0), 3);
        due("37 waiting behind these", x.run(0, 1), 3);
        due("37 apart", x.all(0) + x.all(1) + x.rule(5) + x.count(3) + x.count(4), 2);
        Check.script(x, "t60;q1,0,0,9");
        due("37 all can be", x.run(1, 0), NONE);
        due("37 waiting then", x.run(1, 1), 9);
        Check.script(x, "t0");
        due("37 the first can't be", x.run(2, 0) * 10 + x.run(2, 1), 2);
        Check.script(x, "t61");
        due("37 61 ticks can't be", x.run(3, 0), 0);
        for (int[] a : new int[][] {{-1, 0}, {4, 0}, {0, -1}, {0, 2}, {MAX, 0}, {0, MIN}}) due("37 no such ones", x.run(a[0], a[1]), HIDDEN);
        due("37 no status", x.status(0) + x.status(1) + x.status(2), 0);
    }

    private static void p38Perform() {
        SlotBuses x = new SlotBuses();
        Check.script(x, "q0,1,0,3;t1;c0;c0;t1");
        due("38 no row", x.perform(0), NONE);
        Check.again(x, "sn3;qf2t0m2");
        due("38 three are done", x.perform(0), 3);
        due("38 as acts", x.count(3) * 10 + x.count(4), 33);
        due("38 cut", x.rule(5) * 10 + x.all(0), 11);
        due("38 the latest", x.log(0, 0), 2);
        due("38 no status", x.status(0) + x.status(1) + x.status(2) + x.status(3), 0);
        due("38 undone one by one", x.undo() * 10 + x.rule(5), 20);
        Check.script(x, "e0;e1;w0,1;r0,2,3;h0;t2");
        due("38 the heal can't be", x.perform(1), 4);
        due("38 what was done", x.rule(4) * 10 + x.reserved(0, 0), 32);
        for (int script : new int[] {-1, 2, MIN, MAX}) due("38 no such script", x.perform(script), NONE);
        Check.script(x, "e2;t5");
        due("38 all", x.perform(2), 2);
        Check.script(x, "t60");
        due("38 a single step", x.perform(3), 1);
        x = row("sn3");
        Check.script(x, "t1;t1;t1;t1");
        Check.script(x, "e0");
        due("38 a short one behind a long one", x.perform(1) * 100 + x.count(3) * 10 + x.all(0), 110);
        due("38 as run() tells", x.run(1, 0), NONE);
    }

    private static void p39All() {
        SlotBuses x = row("sn3d1e4;qf0t2m3;qf1t2;qf2t0;qf2t1");
        long[] first = {0, 6, 0, 0, 0, 0, 6, 0, 3, 3, 0};
        for (int what = 0; what < 11; what++) due("39 at first, all(" + what + ")", x.all(what), first[what]);
        x.tick(3);
        // TIME 2: segment 1 is at 2 and emptied, 3 went; 5 was at 1, 6 at 1 in TIME 2; 4 waits for a free slot.
        due("39 TIME", x.all(0), 3);
        due("39 waiting", x.all(1), x.station(0, 0) + x.station(1, 0) + x.station(2, 0));
        due("39 delivered", x.all(3), x.station(0, 1) + x.station(1, 1) + x.station(2, 1));
        due("39 all of them", x.all(1) + x.all(2) + x.all(3) + x.all(4), 6);
        due("39 emptied", x.all(10), 1);
        int under = x.all(2);
        due("39 lost", x.cut(0) + x.cut(1), under);
        due("39 LOST", x.all(4), under);
        x = row("sn4;qf2t1m2;qf3t1m2");
        due("39 of several the lowest", x.all(7), 2);
        x.tick(2);
        due("39 sum of WAITS", x.all(5), 0 + 1);
        x.tick(9);
        due("39 sum of all WAITS", x.all(5), 0 + 1 + 2 + 3);
        due("39 nothing waits", x.all(7) + x.all(1) + x.all(8), 0);
        for (int what : new int[] {-1, 11, MIN, MAX}) due("39 no such what", x.all(what), HIDDEN);
        due("39 no row", new SlotBuses().all(0), HIDDEN);
    }

    private static void p40Image() {
        due("40 no row", new SlotBuses().image(), NONE);
        SlotBuses x = row("sn3;qm3");
        due("40 TIME 0", x.image(), 0);
        x.tick(2);
        due("40 TIME 2", x.image(), 2);
        x.tick(1);
        due("40 instead of the one ahead", x.back(), 2);
        due("40 no act", x.count(3), 1);
    }

    private static void p41Back() {
        due("41 no row", new SlotBuses().back(), NONE);
        SlotBuses x = row("sn3d1l2b2;qm3;qf2t0l1");
        due("41 no image", x.back(), NONE);
        x.tick(2);
        x.reserve(0, 2, 2);
        x.eraser(1);
        x.image();
        int[] was = new int[11];
        for (int what = 0; what < 11; what++) was[what] = x.all(what);
        int log = x.count(3);
        int on = x.hop(0, 0, 1) * 10 + x.hop(1, 1, 0);
        x.cut(0);
        x.tick(5);
        x.reserve(0, 2, 0);
        x.eraser(1);
        x.come(0, 2, 0, 3);
        due("41 TIME", x.back(), 2);
        for (int what = 0; what < 11; what++) due("41 all(" + what + ")", x.all(what), was[what]);
        due("41 the log", x.count(3), log);
        due("41 on the hops", x.hop(0, 0, 1) * 10 + x.hop(1, 1, 0), on);
        due("41 cut, erasers, reserved", x.rule(5) * 100 + x.rule(4) * 10 + x.reserved(0, 1), 22);
        due("41 no act can be undone", x.undo(), NONE);
        x.tick(1);
        due("41 once more", x.back(), 2);
        Check.again(x, "sn3");
        due("41 no image of this row", x.back(), NONE);
    }

    private static void p42Count() {
        SlotBuses x = row("sn6;qm3");
        due("42 STATIONS", x.count(0), 6);
        Check.script(x, "t1");
        due("42 SCRIPTS", x.count(1), 1);
        Check.feed(x, "abc");
        due("42 bytes", x.count(2), 3);
        x.tick(2);
        x.tick(1);
        x.tick(0);
        x.undo();
        due("42 the log", x.count(3), 1);
        due("42 acts", x.count(4), 1);
        due("42 arrivals", x.count(5), 2);
        for (int what : new int[] {-1, 6, MIN, MAX}) due("42 others", x.count(what), HIDDEN);
    }

    public static void main(String[] args) {
        p01NewObject();
        p02Feed();
        p03End();
        p04Fault();
        p05Text();
        p06Rule();
        p07Line();
        p08Waiting();
        p09Station();
        p10Hop();
        p11Come();
        p12Tick();
        p13Cut();
        p14Heal();
        p15Eraser();
        p16Withdraw();
        p17Reserve();
        p18Reserved();
        p19Years();
        p20Status();
        p21Undo();
        p22Log();
        p23Arrival();
        p24Ahead();
        p25When();
        p26Next();
        p27Drained();
        p28Share();
        p29Fair();
        p30FirstCome();
        p31Worst();
        p32Gain();
        p33Spread();
        p34Mean();
        p35Hurt();
        p36Step();
        p37Run();
        p38Perform();
        p39All();
        p40Image();
        p41Back();
        p42Count();
        Check.finish();
    }
}
