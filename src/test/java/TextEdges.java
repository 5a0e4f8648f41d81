/** The edges that part 1 of the Terms and promises 1 to 5 and 36 name: TEXTS, the TAPE, SCRIPTS. */
final class TextEdges {
    private static final int NONE = SlotBuses.NONE;
    private static final int HIDDEN = SlotBuses.HIDDEN;
    private static final int MIN = Integer.MIN_VALUE;
    private static final int MAX = Integer.MAX_VALUE;

    private TextEdges() {
    }

    static void all() {
        clauses();
        items();
        rules();
        waits();
        steps();
        blanks();
        faults();
        leftOut();
        newObject();
        tape();
        texts();
        stepsTold();
    }

    /** The FAULT of a text as a ROW, and whether text() takes it just when it has none. */
    private static void row(String text, int fault) {
        SlotBuses x = new SlotBuses();
        Check.feed(x, text);
        Doc.due("fault(0) of \"" + text + "\"", x.fault(0), fault);
        Doc.due("text(0) of \"" + text + "\" is refused", x.text(0) == NONE, fault != NONE);
    }

    private static void script(String text, int fault) {
        SlotBuses x = new SlotBuses();
        Check.feed(x, text);
        Doc.due("fault(1) of \"" + text + "\"", x.fault(1), fault);
        Doc.due("text(1) of \"" + text + "\"", x.text(1), fault == NONE ? 0 : NONE);
    }

    private static String many(String what, int n) {
        String text = what;
        for (int i = 1; i < n; i++) text += ";" + what;
        return text;
    }

    private static void clauses() {
        Doc.says(0, "A ROW is a TEXT: CLAUSES with ; between: s (its RULES; one at most)");
        row("q", NONE);
        row("s", NONE);
        row("s;s", 2);
        row("s;q;s", 4);
        row("q;s;q;s", 6);
        row("s n4 ; s", 7);
        row("ss", 1);
        row("s,q", 1);
        row("sq", 1);
        Doc.says(0, "q (what waits at first; none to 8)");
        row("s", NONE);
        row(many("q", 1), NONE);
        row(many("q", 8), NONE);
        row("s;" + many("q", 8), NONE);
        row(many("q", 8) + ";s", NONE);
        row(many("q", 9), 16);
        row("s;" + many("q", 9), 18);
        row(many("q", 8) + ";s;q", 18);
        Doc.due("none wait", Check.row("s").all(6), 0);
        Doc.due("eight wait", Check.row(many("q", 8)).all(6), 8);
        Doc.says(0, "in any order, one at least");
        row("", 0);
        row("   ", 3);
        row(";", 0);
        row(";s", 0);
        row("s;", 2);
        row("s;;q", 2);
        row("q;s", NONE);
        row("q;s;q", NONE);
        SlotBuses x = Check.row("qf6t7;sn8;qf5t7");
        Doc.due("the RULES of a later s", x.rule(0), 8);
        Doc.due("q ahead of s", Check.line(x, 6, 0, 0, 5), 1);
        Doc.due("q behind s", Check.line(x, 5, 0, 0, 5), 2);
    }

    private static void items() {
        Doc.says(0, "then ITEMS, none or more: a letter, each once at most in a CLAUSE, and a number (one to three digits)");
        row("s", NONE);
        row("q", NONE);
        row("sn4d1b1l1e1", NONE);
        row("se1l1b1d1n4", NONE);
        row("qf1t2l0m3", NONE);
        row("qm3l0t2f1", NONE);
        for (String letter : new String[] {"n2", "d1", "b1", "l1", "e1"}) row("s" + letter + letter, 3);
        for (String letter : new String[] {"f1", "t1", "l1", "m1"}) row("q" + letter + letter, 3);
        row("sn4d1b1l1e1n4", 11);
        row("qf1t2l0m3f1", 9);
        row("qf1;qf1", NONE);
        row("sl1;ql0", NONE);
        row("sn", 2);
        row("sn;q", 2);
        row("snd1", 2);
        row("sn4", NONE);
        row("sn04", NONE);
        row("sn004", NONE);
        row("sn0004", 5);
        row("s4", 1);
        row("sn4 d", 5);
        for (String letter : new String[] {"f", "t", "m", "x", "N", "s"}) row("s" + letter + "1", 1);
        for (String letter : new String[] {"n", "d", "b", "e", "x", "F", "q"}) row("q" + letter + "1", 1);
    }

    private static String padded(int value, int digits) {
        String text = Integer.toString(value);
        while (text.length() < digits) text = "0" + text;
        return text;
    }

    /** All values from 0 to 999 and a little beyond, each with as many digits as it may have. */
    private static void values(String ahead, int least, int most) {
        for (int value = 0; value <= 999; value++) {
            for (int digits = 1; digits <= 3; digits++) {
                String text = ahead + padded(value, digits);
                Doc.due("fault(0) of \"" + text + "\"", Check.fault(text, 0), value >= least && value <= most ? NONE : text.length() - 1);
            }
        }
        row(ahead + least, NONE);
        row(ahead + most, NONE);
        row(ahead + (most + 1), ahead.length() + Integer.toString(most + 1).length() - 1);
        if (least > 0) row(ahead + (least - 1), ahead.length());
        row(ahead + padded(most, 4), ahead.length() + 3);
        row(ahead + "-1", ahead.length());
    }

    private static void rule(String quote, String letter, int least, int most, int without, int what) {
        Doc.says(0, quote);
        values("s" + letter, least, most);
        Doc.due("the least", Check.row((what == 0 ? "s" : "sn8") + letter + least).rule(what), least);
        Doc.due("the greatest", Check.row((what == 0 ? "s" : "sn8") + letter + most).rule(what), most);
        Doc.due("without", Check.row("s").rule(what), without);
        Doc.due("without s", Check.row("q").rule(what), without);
        SlotBuses x = Check.row("sn8d3b9l3e255");
        Check.again(x, "s");
        Doc.due("without, behind another ROW", x.rule(what), without);
    }

    private static void rules() {
        rule("of s: n STATIONS (2 .. 8; 4 without)", "n", 2, 8, 4, 0);
        rule("d DELAY (0 .. 3; 0)", "d", 0, 3, 0, 1);
        rule("b BALANCE (0 .. 9; 0)", "b", 0, 9, 0, 2);
        rule("l LEVELS (1 .. 3; 1)", "l", 1, 3, 1, 3);
        rule("e ERASERS (bits: 0 .. 255; 0)", "e", 0, 255, 0, 4);
        for (int s = 0; s < 8; s++) Doc.due("the bit of STATION " + s, Check.row("sn8e" + (1 << s)).eraser(s), 0);
    }

    private static void waits() {
        Doc.says(0, "of q: f FROM (0 .. 7; 0)");
        values("qf", 0, 7);
        for (int f = 0; f < 8; f++) Doc.due("FROM " + f, Check.row("sn8;qt" + (f + 1) % 8 + "f" + f).station(f, 0), 1);
        Doc.due("without", Check.row("sn8;qt5").station(0, 0), 1);
        Doc.due("without, behind one with", Check.row("sn8;qf5t4;qt5").station(0, 0), 1);
        Doc.says(0, "t TO (0 .. 7; 1)");
        values("qt", 0, 7);
        for (int t = 0; t < 8; t++) {
            int from = (t + 1) % 8;
            Doc.due("TO " + t, Check.row("sn8;qf" + from + "t" + t).waiting(from, t > from ? 0 : 1, 0, 0, 1), t);
        }
        Doc.due("without", Check.row("sn8;qf5").waiting(5, 1, 0, 0, 1), 1);
        Doc.says(0, "l LEVEL (0 .. 2; 0)");
        values("ql", 0, 2);
        for (int l = 0; l < 3; l++) Doc.due("LEVEL " + l, Check.line(Check.row("sl3;ql" + l), 0, 0, l, 0), 1);
        Doc.due("without", Check.line(Check.row("sl3;q"), 0, 0, 0, 0), 1);
        Doc.says(0, "m MANY (1 .. 9; 1)");
        values("qm", 1, 9);
        for (int m = 1; m <= 9; m++) Doc.due("MANY " + m, Check.row("qm" + m).all(1), m);
        Doc.due("without", Check.row("q").all(1), 1);
    }

    private static void steps() {
        Doc.says(0, "SCRIPTS (4 at most) are TEXTS");
        SlotBuses x = new SlotBuses();
        Doc.due("none at first", x.count(1), 0);
        for (int i = 0; i < 4; i++) Doc.due("SCRIPT " + i, Check.script(x, "t" + i), i);
        Doc.due("a fifth", Check.script(x, "t4"), NONE);
        Doc.due("there are four", x.count(1), 4);
        for (int i = 0; i < 4; i++) Doc.due("they stay", x.step(i, 0, 1), i);
        Doc.says(0, "STEPS with ; between, 1 to 16");
        script("", 0);
        script("  ", 2);
        script(";", 0);
        script("t1,t1", 2);
        script("t1t1", 2);
        for (int n = 1; n <= 16; n++) script(many("t1", n), NONE);
        script(many("t1", 17), 47);
        x = new SlotBuses();
        Check.script(x, many("c3", 16));
        Doc.due("the 16th", x.step(0, 15, 1), 3);
        Doc.due("none behind it", x.step(0, 16, 1), HIDDEN);
        digits("q and four digits with , between (FROM, TO, LEVEL, MANY: they come)", "q", 4);
        Doc.says(0, "t and a number (TICKS, 0 .. 99)");
        for (int n = 0; n <= 99; n++) {
            script("t" + n, NONE);
            script("t" + padded(n, 2), NONE);
            script("t" + padded(n, 3), 3);
        }
        script("t100", 3);
        script("t", 1);
        script("t ", 2);
        script("t-1", 1);
        script("t;t1", 1);
        for (String letter : new String[] {"c", "h", "e"}) {
            digits("c, h, e, each with a digit (the HOP is CUT, HEALED; the STATION is an ERASER, or is none any more)", letter, 1);
        }
        digits("w and two digits with , between (WITHDRAWN: FROM, TO)", "w", 2);
        digits("r and three digits with , between (BUS, STATION, EVERY: RESERVED)", "r", 3);
    }

    /** A STEP of so many digits: all digits, too few, too many, two instead of one. */
    private static void digits(String quote, String letter, int n) {
        Doc.says(0, quote);
        for (int digit = 0; digit <= 9; digit++) script(letter + many("" + digit, n).replace(';', ','), NONE);
        String text = letter + many("1", n).replace(';', ',');
        for (int length = 0; length < text.length(); length++) {
            if (length > 0) script(text.substring(0, length), length);
        }
        script(text + ",", text.length());
        script(text + ",1", text.length());
        for (int at = 1; at < text.length(); at += 2) {
            script(text.substring(0, at) + "1" + text.substring(at), at + 1);
            script(text.substring(0, at) + "0" + text.substring(at), at + 1);
            script(text.substring(0, at) + "x" + text.substring(at + 1), at);
            script(text.substring(0, at) + text.substring(at + 1), at);
        }
        for (int at = 2; at < text.length(); at += 2) script(text.substring(0, at) + ";" + text.substring(at + 1), at);
    }

    private static void blanks() {
        Doc.says(0, "Blanks (32) may stand between all signs of both, not within a number.");
        row("  s  n  4  ;  q  f  1  t  2  ", NONE);
        row("s n 004 d 3", NONE);
        script("  q  1  ,  2  ,  0  ,  3  ;  t  99  ;  c  1  ;  w  1 , 2 ; r 0 , 1 , 2  ", NONE);
        row("sn4 4", 4);
        row("sn0 4", 2);
        row("se2 55", 4);
        row("qm1 1", 4);
        script("t1 0", 3);
        script("t9 9", 3);
        script("c1 1", 3);
        for (int sign : new int[] {1, 9, 10, 13, 31, 33, 95, 127, 128, 160, 255}) {
            row("s" + (char) sign, 1);
            row((char) sign + "s", 0);
            script("t1" + (char) sign, 2);
            script((char) sign + "t1", 0);
        }
    }

    private static void faults() {
        Doc.says(0, "FAULT: the first byte at which no such TEXT can go on (the length, if it ends too early)");
        row("x", 0);
        row("sx", 1);
        row("sn4,", 3);
        row("sn4;x", 4);
        row("sn4;t1", 4);
        row("s; ", 3);
        row("q;  ", 4);
        row("sn  ", 4);
        script("x", 0);
        script("s", 0);
        script("t1,", 2);
        script("t1;", 3);
        script("t1; ", 4);
        script("t1;x", 3);
        script("t1;;t1", 3);
        script("q1", 2);
        script("q1, ", 4);
        row(" ".repeat(240), 240);
        row(" ".repeat(239) + "q", NONE);
        row("s" + " ".repeat(238) + ";", 240);
        row("s" + " ".repeat(238) + "n", 240);
        row("sn" + " ".repeat(237) + "4", NONE);
        row("sn" + " ".repeat(237) + "9", 239);
        script(" ".repeat(240), 240);
        script("t" + " ".repeat(238) + "9", NONE);
        script("t" + " ".repeat(238) + ";", 239);
        Doc.says(0, "a number out of bounds is wrong at its last digit");
        row("sn1", 2);
        row("sn01", 3);
        row("sn001", 4);
        row("sn9", 2);
        row("sn10", 3);
        row("sn100", 4);
        row("sn9d1", 2);
        row("sn9;q", 2);
        row("sn9x", 2);
        row("sd9 b3", 2);
        row("qm00", 3);
        row("qm000;", 4);
        Doc.says(0, "a fourth digit itself (a third one of t in a SCRIPT), whatever stands ahead of it");
        row("sn0004", 5);
        row("sn9999", 5);
        row("sn0000", 5);
        row("se2550", 5);
        row("se255000", 5);
        row("qm0001", 5);
        row("qm99999", 5);
        script("t000", 3);
        script("t001", 3);
        script("t990", 3);
        script("t12345", 3);
        Doc.says(0, "a letter that was there, a second s, a ninth q, the ; ahead of a 17th STEP.");
        row("sd1d", 3);
        row("sd9d1", 2);
        row("s;sn9", 2);
        row(many("q", 9) + "m0", 16);
        script(many("t1", 16) + ";", 47);
        script(many("t1", 16) + " ; t1", 48);
        script(many("t1", 16) + "x", 47);
        script(many("t1", 15) + ";", 45);
    }

    private static void leftOut() {
        Doc.says(0, "(What a STEP tells that can't be is no FAULT, nor what a q tells: that is left out.)");
        script("c9;h9;e9;t0;t61;t99;w0,0;w9,9;r9,9,1;q9,9,9,0;q0,0,0,0", NONE);
        String[] out = {"sn2;qf2t0", "sn2;qf7t0", "sn2;qt2", "sn2;qt7", "sn8;qt0", "qf1", "sl1;ql1", "sl2;ql2", "sl1;ql2"};
        for (String text : out) {
            row(text, NONE);
            SlotBuses x = Check.row(text + ";qt1");
            Doc.due("of " + text + ";qt1 just the last one comes", x.all(6) * 10 + x.all(1), 11);
            Doc.due("STATUS stays", x.status(0) + x.status(1) + x.status(2) + x.status(3), 0);
        }
        Doc.due("the greatest FROM and LEVEL that there are come", Check.row("sn2l3;qf1t0l2").all(6), 1);
        SlotBuses x = Check.row("qm9;qm9;qm9;qm3;qm1;qf1t0");
        Doc.due("30 come, a 31st does not, the next one does", x.station(0, 0) * 10 + x.station(1, 0), 301);
        x = Check.row("qm9;qm9;qm9;qm4;qm3;qf1t0");
        Doc.due("what would be above 30 is left out whole", x.station(0, 0) * 100 + x.all(6), 3031);
    }

    private static void newObject() {
        Doc.says(1, "`SlotBuses()`: No ROW.");
        SlotBuses x = new SlotBuses();
        Doc.due("rule(0)", x.rule(0), NONE);
        Doc.due("all(0)", x.all(0), HIDDEN);
        for (int what = 0; what < 6; what++) Doc.due("count(" + what + ")", x.count(what), 0);
        Doc.says(0, "An object is used for at most 512 calls after it has been made; what later calls answer is free.");
        x = new SlotBuses();
        x.feed('s' << 24 | 'n' << 16 | '2' << 8, 0, 0, 0, 0);
        x.text(0);
        for (int i = 0; i < 509; i++) x.come(0, 1, 0, i % 17 == 0 ? 1 : 0);
        Doc.due("the 512th call", x.all(6), 30);
        Doc.says(0, "The constants: `NONE = -1`: None; refused. `HIDDEN = -1000000`: Not told.");
        Doc.due("NONE", SlotBuses.NONE, -1);
        Doc.due("HIDDEN", SlotBuses.HIDDEN, -1000000);
    }

    private static void tape() {
        Doc.says(2, "Twenty bytes more come to the TAPE (of each number the highest first; bytes of 0 are left out): how many it has.");
        SlotBuses x = new SlotBuses();
        Doc.due("nothing", x.feed(0, 0, 0, 0, 0), 0);
        Doc.due("twenty", x.feed(0x73202020, 0x20202020, 0x20202020, 0x20202020, 0x2020206e), 20);
        Doc.due("in order", x.fault(0), 20);
        Doc.due("one, the lowest byte", x.feed(0, 0, 0, 0, '8'), 21);
        Doc.due("s first, n last, 8 behind it", x.text(0), 8);
        for (int shift = 0; shift < 32; shift += 8) {
            for (int place = 0; place < 5; place++) {
                x = new SlotBuses();
                int one = 's' << shift;
                Doc.due("one byte", x.feed(place == 0 ? one : 0, place == 1 ? one : 0, place == 2 ? one : 0, place == 3 ? one : 0,
                    place == 4 ? one : 0), 1);
                Doc.due("that byte", x.fault(0), NONE);
            }
        }
        x = new SlotBuses();
        Doc.due("bytes 1 and 255 come", x.feed(0x01ff0100, 0xff000000, -1, 0, 1), 9);
        Doc.due("they are wrong", x.fault(0), 0);
        Doc.says(2, "NONE: more than 240.");
        for (int room = 0; room <= 20; room++) {
            for (int bytes = 0; bytes <= 20; bytes++) full(room, bytes);
        }
        for (int sign = 1; sign <= 255; sign++) lastByte(sign);
        Doc.says(3, "The TAPE has its first n bytes alone. False: n.");
        x = new SlotBuses();
        Doc.due("0 of none", x.end(0), true);
        Doc.due("1 of none", x.end(1), false);
        Doc.due("-1 of none", x.end(-1), false);
        Check.feed(x, "sn7d2");
        for (int n : new int[] {-1, 6, 240, MIN, MAX}) {
            Doc.due("end(" + n + ") of 5", x.end(n), false);
            Doc.due("5 stay", x.count(2), 5);
        }
        Doc.due("5 of 5", x.end(5), true);
        Doc.due("5", x.count(2), 5);
        Doc.due("3 of 5", x.end(3), true);
        Doc.due("3", x.count(2), 3);
        Doc.due("4 of 3", x.end(4), false);
        Doc.due("the first three", x.text(0) * 10 + x.rule(1), 70);
        Check.feed(x, "sn7");
        x.end(1);
        Check.feed(x, "d");
        Doc.due("what comes stands behind those", x.fault(0), 2);
        Doc.due("0 of 2", x.end(0), true);
        Doc.due("0", x.count(2), 0);
        x = new SlotBuses();
        Check.feed(x, " ".repeat(240));
        Doc.due("241 of 240", x.end(241), false);
        Doc.due("240 of 240", x.end(240), true);
        Doc.due("239 of 240", x.end(239), true);
    }

    /** A TAPE with room for so many, and so many more. */
    private static void full(int room, int bytes) {
        SlotBuses x = new SlotBuses();
        Check.feed(x, "s" + " ".repeat(239 - room));
        String more = "x".repeat(bytes);
        int answer = x.feed(Check.pack(more, 0), Check.pack(more, 4), Check.pack(more, 8), Check.pack(more, 12), Check.pack(more, 16));
        Doc.due(bytes + " behind " + (240 - room), answer, bytes <= room ? 240 - room + bytes : NONE);
        Doc.due("so many are there", x.count(2), bytes <= room ? 240 - room + bytes : 240 - room);
        Doc.due("none came of those that are too many", x.fault(0), bytes > room || bytes == 0 ? NONE : 240 - room);
    }

    /** Each byte counts as one, wherever it stands in its number. */
    private static void lastByte(int sign) {
        for (int shift = 0; shift < 32; shift += 8) {
            int one = sign << shift;
            SlotBuses x = new SlotBuses();
            Check.feed(x, "s" + " ".repeat(238));
            Doc.due("two of byte " + sign + " behind 239", x.feed(one, 0, 0, 0, one), NONE);
            Doc.due("one of byte " + sign + " behind 239", x.feed(0, 0, one, 0, 0), 240);
            Doc.due("one of byte " + sign + " behind 240", x.feed(0, one, 0, 0, 0), NONE);
            Doc.due("that byte came", x.fault(0), sign == ' ' ? NONE : sign == ';' ? 240 : "ndble".indexOf((char) sign) >= 0 ? 240 : 239);
        }
    }

    private static void texts() {
        Doc.says(4, "The FAULT of the TAPE as a ROW (0), a SCRIPT (1). NONE: none. -2: no such sort.");
        SlotBuses x = new SlotBuses();
        Doc.due("empty, as a ROW", x.fault(0), 0);
        Doc.due("empty, as a SCRIPT", x.fault(1), 0);
        for (int sort : new int[] {-1, 2, -2, MIN, MAX}) Doc.due("fault(" + sort + ")", x.fault(sort), -2);
        Check.feed(x, "q");
        for (int i = 0; i < 2; i++) {
            Doc.due("none as a ROW", x.fault(0), NONE);
            Doc.due("as a SCRIPT", x.fault(1), 1);
            for (int sort : new int[] {-1, 2, MIN, MAX}) Doc.due("fault(" + sort + ")", x.fault(sort), -2);
        }
        Doc.due("the TAPE stays", x.count(2), 1);
        Doc.says(5, "The TAPE (empty then) is the ROW (TIME 0; all that was of another one is gone but SCRIPTS, STATUS; what its q tell "
            + "comes in order, without ACTS): how many STATIONS; a SCRIPT: its number.");
        x = used();
        Doc.due("text(0)", Check.again(x, "sn6;qf5t0m2;qf3t0"), 6);
        Doc.due("the TAPE is empty", x.count(2), 0);
        Doc.due("TIME 0", x.all(0), 0);
        Doc.due("in order", x.waiting(5, 1, 0, 1, 0) * 10 + x.waiting(3, 1, 0, 0, 0), 23);
        Doc.due("TIME as they came", x.waiting(5, 1, 0, 1, 2), 0);
        int[] left = {0, 3, 0, 0, 0, 0, 3, 5, 2, 2, 0};
        for (int what = 0; what < 11; what++) Doc.due("all(" + what + ")", x.all(what), left[what]);
        Doc.due("ERASERS, CUT", x.rule(4) + x.rule(5), 0);
        for (int s = 0; s < 6; s++) {
            for (int what = 1; what < 6; what++) Doc.due("station(" + s + ", " + what + ")", x.station(s, what), 0);
            for (int bus = 0; bus < 2; bus++) {
                Doc.due("RQ", Check.line(x, s, bus, 0, 2) + Check.line(x, s, bus, 0, 3), 0);
                if (s < 5) Doc.due("on the HOP", x.hop(s, bus, 0), 0);
            }
        }
        Doc.due("RESERVED", x.reserved(0, 0) + x.reserved(1, 0), 2 * NONE);
        Doc.due("the LOG", x.count(3), 0);
        Doc.due("UNDONE", x.count(4), 0);
        Doc.due("undo()", x.undo(), NONE);
        Doc.due("ARRIVALS", x.count(5), 0);
        Doc.due("an IMAGE", x.back(), NONE);
        Doc.due("SCRIPTS", x.count(1) * 100 + x.step(0, 0, 1), 105);
        Doc.due("STATUS", x.status(0) * 1000 + x.status(1) * 100 + x.status(2) * 10 + x.status(3), 1211);
        Doc.due("a SCRIPT", Check.script(x, "e1"), 1);
        Doc.due("the TAPE is empty then", x.count(2), 0);
        Doc.due("the ROW stays", x.rule(0) * 10 + x.all(1), 63);
        x = used();
        Check.again(x, "sn3d3");
        x.tick(3);
        Doc.due("nothing of another ROW comes by the HOPS", x.all(3) + x.hop(0, 0, 1) + x.hop(1, 0, 1) + x.hop(0, 1, 1) + x.hop(1, 1, 1), 0);
        for (int i = 0; i < Lived.SEEDS; i++) {
            int seed = i;
            String text = seed % 2 == 0 ? "sn8l3b5;qf7t6;qf0t7m9" : "sn2d" + seed % 4;
            Lived.alike("a ROW behind that of seed " + seed, () -> {
                SlotBuses y = Lived.row(seed);
                Check.again(y, text);
                return y;
            }, () -> {
                SlotBuses y = new SlotBuses();
                Check.script(y, "q0,1,0,3;t2;c0;h0;e0;w0,1;r0,1,2");
                Check.script(y, "e1;t1");
                Check.again(y, text);
                return y;
            });
        }
        x = new SlotBuses();
        for (int i = 0; i < 2; i++) {
            Check.again(x, "sn8;qf3t1m9");
            for (int k = 0; k < 30; k++) for (int f = 0; f < 8; f += 7) x.come(f, 7 - f, 0, 1);
            for (int f = 1; f < 7; f++) for (int k = 0; k < 4; k++) x.come(f, 0, 0, Math.min(9, 30 - x.station(f, 0)));
            Doc.due("there is room for all that may wait", x.all(1), 240);
        }
        Doc.says(5, "NONE: a FAULT (the TAPE stays), no such sort, there are four SCRIPTS.");
        x = used();
        Check.feed(x, "sn9");
        for (int sort : new int[] {0, 1, -1, 2, -2, MIN, MAX}) Doc.due("text(" + sort + ") of sn9", x.text(sort), NONE);
        Doc.due("the TAPE stays", x.count(2) * 10 + x.fault(0), 32);
        Doc.due("the ROW stays", x.rule(0) * 10 + x.rule(1), 52);
        Doc.due("SCRIPTS stay", x.count(1), 1);
        for (int sort : new int[] {-1, 2, MIN, MAX}) {
            x = new SlotBuses();
            Check.feed(x, "q");
            Doc.due("text(" + sort + ") of q", x.text(sort), NONE);
            Doc.due("no ROW by that", x.count(0) * 10 + x.count(2), 1);
        }
        x = used();
        for (int i = 1; i < 4; i++) Doc.due("SCRIPT " + i, Check.script(x, "t1"), i);
        Doc.due("there are four", Check.script(x, "t2;t3"), NONE);
        Doc.due("the TAPE stays then", x.count(2), 5);
        Doc.due("again", x.text(1), NONE);
        Doc.due("a ROW still can be", Check.again(x, "sn2"), 2);
    }

    /** A ROW on which something of every sort was done: STATUS 1, 2, 1, 1. */
    private static SlotBuses used() {
        SlotBuses x = Check.row("sn5d2l2b3e9;qf0t4m9;qf4t0m9;qf2t4l1m5;qf0t2m9;qf0t3m9");
        Check.script(x, "t5");
        x.tick(9);
        x.cut(1);
        x.eraser(2);
        x.reserve(0, 3, 4);
        x.reserve(1, 2, 2);
        x.come(0, 1, 0, 9);
        x.tick(5);
        x.image();
        x.cut(4);
        x.come(0, 1, 0, 0);
        x.tick(61);
        x.heal(0);
        for (int i = 0; i < 5 && x.status(3) == 0; i++) x.come(4, 0, 0, 9);
        return x;
    }

    private static void stepsTold() {
        Doc.says(36, "A STEP of a SCRIPT: 0 what (0 q, 1 t, 2 c, 3 h, 4 e, 5 w, 6 r), 1 to 4 its numbers (NONE: there are fewer).");
        SlotBuses x = new SlotBuses();
        Check.script(x, "q9,8,7,6;t0;t99;c0;h9;e5;w1,2;r3,4,5;t07");
        int[][] want = {{0, 9, 8, 7, 6}, {1, 0, NONE, NONE, NONE}, {1, 99, NONE, NONE, NONE}, {2, 0, NONE, NONE, NONE},
            {3, 9, NONE, NONE, NONE}, {4, 5, NONE, NONE, NONE}, {5, 1, 2, NONE, NONE}, {6, 3, 4, 5, NONE}, {1, 7, NONE, NONE, NONE}};
        for (int i = 0; i < want.length; i++) {
            for (int what = 0; what < 5; what++) Doc.due("step(0, " + i + ", " + what + ")", x.step(0, i, what), want[i][what]);
        }
        Doc.says(36, "HIDDEN: no such ones.");
        for (int script : new int[] {-1, 1, 4, MIN, MAX}) Doc.due("SCRIPT " + script, x.step(script, 0, 0), HIDDEN);
        for (int i : new int[] {-1, 9, 15, 16, MIN, MAX}) Doc.due("STEP " + i, x.step(0, i, 0), HIDDEN);
        for (int what : new int[] {-1, 5, MIN, MAX}) Doc.due("what " + what, x.step(0, 0, what), HIDDEN);
        Doc.due("none at all", new SlotBuses().step(0, 0, 0), HIDDEN);
        for (int i = 1; i < 4; i++) Check.script(x, "t" + i);
        Doc.due("SCRIPT 3", x.step(3, 0, 1), 3);
        Doc.due("SCRIPT 4", x.step(4, 0, 0), HIDDEN);
        Doc.due("behind a shorter one's end", x.step(3, 1, 0), HIDDEN);
    }
}
