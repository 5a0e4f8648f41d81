import java.util.Random;

/** ROWS that something of everything was done to, by draws: the same for the same seed. */
final class Lived {
    static final int SEEDS = 12;

    private Lived() {
    }

    static SlotBuses row(int seed) {
        Random random = new Random(seed);
        SlotBuses x = new SlotBuses();
        Check.script(x, "q0,1,0,3;t2;c0;h0;e0;w0,1;r0,1,2");
        Check.script(x, "e1;t1");
        int n = 3 + random.nextInt(6);
        Check.again(x, rules(random, n) + waits(random, n));
        x.reserve(0, random.nextInt(n), 2 + random.nextInt(3));
        x.reserve(1, random.nextInt(n), 2 + random.nextInt(3));
        x.years(8, seed);
        for (int i = 0; i < 12; i++) {
            x.come(random.nextInt(n), random.nextInt(n), random.nextInt(3), 1 + random.nextInt(9));
            if (i % 2 == 0) x.tick(1 + random.nextInt(3));
        }
        x.image();
        for (int hop = 0; hop < n - 1; hop++) if (random.nextInt(3) == 0) x.heal(hop);
        x.years(5, seed + 100);
        x.tick(2);
        Check.feed(x, "sn3;qf");
        return x;
    }

    private static String rules(Random random, int n) {
        return "sn" + n + "d" + random.nextInt(4) + "b" + (1 + random.nextInt(5)) + "l" + (1 + random.nextInt(3)) + "e" + random.nextInt(256);
    }

    private static String waits(Random random, int n) {
        StringBuilder text = new StringBuilder();
        for (int i = 0; i < 8; i++) {
            text.append(";qf").append(random.nextInt(n)).append("t").append(random.nextInt(n)).append("m").append(1 + random.nextInt(9));
        }
        return text.toString();
    }

    /** Whether the objects of two makers tell the same now, and go on the same way. */
    static void alike(String what, Face.Maker is, Face.Maker due) {
        long[] got = Face.told(is);
        long[] want = Face.told(due);
        int unlike = 0;
        for (int i = 0; i < want.length; i++) {
            if (got[i] != want[i] && unlike++ < 5) Doc.due(what + ", " + Face.name(i), got[i], want[i]);
        }
        Doc.due(what + ": answers that differ", unlike, 0);
        Doc.due(what + ": it goes on the same way", Face.hidden(is).equals(Face.hidden(due)), true);
    }
}
