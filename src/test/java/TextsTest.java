import java.util.Random;

/** Faults of drawn texts: the class against the Grammar. */
public final class TextsTest {
    private static final String[] ROW_PARTS = {"s", "q", ";", "n", "d", "b", "l", "e", "f", "t", "m", " ", "0", "1", "2", "3",
        "8", "9", "25", "255", "256", "1000", "x", ",", "S", "\u00ff", "sn4", "qf1t2", ";q", ";s", "d1", "l2", "m9"};
    private static final String[] SCRIPT_PARTS = {"q", "t", "c", "h", "e", "w", "r", ";", ",", " ", "0", "1", "7", "9", "12",
        "100", "x", "q0,1,0,3", "t5", "c1", "h1", "e2", "w1,2", "r0,1,2", ";t1", ";c2", ";q1 ,2, 0,1", "s"};

    private static String drawn(Random random, String[] parts) {
        StringBuilder text = new StringBuilder();
        int many = random.nextInt(12);
        for (int i = 0; i < many; i++) text.append(parts[random.nextInt(parts.length)]);
        return text.toString();
    }

    /** A right text with a small change, so that faults far behind are met too. */
    private static String changed(Random random, boolean row) {
        StringBuilder text = new StringBuilder();
        int many = 1 + random.nextInt(row ? 10 : 18);
        for (int i = 0; i < many; i++) {
            if (i > 0) text.append(random.nextInt(9) == 0 ? " ; " : ";");
            if (row) {
                text.append(random.nextInt(12) == 0 ? "s" : "q");
                if (random.nextBoolean()) text.append("l").append(1 + random.nextInt(2));
                if (text.charAt(text.length() - 1) == 'q' && random.nextBoolean()) text.append(" t").append(random.nextInt(8));
            } else {
                text.append(SCRIPT_PARTS[17 + random.nextInt(7)]);
            }
        }
        if (random.nextBoolean()) {
            int at = random.nextInt(text.length());
            String[] parts = row ? ROW_PARTS : SCRIPT_PARTS;
            text.replace(at, at + random.nextInt(2), parts[random.nextInt(parts.length)]);
        }
        return text.length() > 240 ? text.substring(0, 240) : text.toString();
    }

    public static void main(String[] args) {
        Random random = new Random(7);
        SlotBuses x = new SlotBuses();
        for (int i = 0; i < 60000; i++) {
            boolean row = random.nextBoolean();
            String text = random.nextBoolean() ? drawn(random, row ? ROW_PARTS : SCRIPT_PARTS) : changed(random, row);
            x.end(0);
            Check.feed(x, text);
            Check.due("fault(0) of \"" + text + "\"", x.fault(0), new Grammar().rowFault(text));
            Check.due("fault(1) of \"" + text + "\"", x.fault(1), new Grammar().scriptFault(text));
        }
        Check.finish();
    }
}
