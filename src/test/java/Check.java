import java.util.NoSuchElementException;

/** What the tests share: texts fed as numbers, answers held against those that are due. */
final class Check {
    static final int THROWN = -777777;
    private static int wrong = 0;
    private static int looked = 0;

    private Check() {
    }

    static void due(String what, long got, long want) {
        looked++;
        if (got != want) {
            wrong++;
            System.out.println(what + " answered " + got + ", due is " + want);
        }
    }

    static void due(String what, boolean got, boolean want) {
        due(what, got ? 1L : 0L, want ? 1L : 0L);
    }

    static int pack(String text, int at) {
        int four = 0;
        for (int k = 0; k < 4; k++) {
            four = four << 8 | (at + k < text.length() ? text.charAt(at + k) & 255 : 0);
        }
        return four;
    }

    static int feed(SlotBuses x, String text) {
        int size = x.count(2);
        for (int at = 0; at < text.length(); at += 20) {
            size = x.feed(pack(text, at), pack(text, at + 4), pack(text, at + 8), pack(text, at + 12), pack(text, at + 16));
        }
        return size;
    }

    static SlotBuses row(String text) {
        SlotBuses x = new SlotBuses();
        again(x, text);
        return x;
    }

    static int again(SlotBuses x, String text) {
        x.end(0);
        feed(x, text);
        return x.text(0);
    }

    static int script(SlotBuses x, String text) {
        x.end(0);
        feed(x, text);
        return x.text(1);
    }

    static int fault(String text, int sort) {
        SlotBuses x = new SlotBuses();
        feed(x, text);
        return x.fault(sort);
    }

    static int line(SlotBuses x, int station, int bus, int level, int what) {
        try {
            return x.line(station, bus, level, what);
        } catch (NoSuchElementException e) {
            return THROWN;
        }
    }

    static int looked() {
        return looked;
    }

    static void finish() {
        System.out.println(looked + " answers looked at, " + wrong + " wrong");
        if (wrong != 0) {
            System.exit(1);
        }
    }
}
