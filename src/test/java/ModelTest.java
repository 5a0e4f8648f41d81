import java.lang.reflect.InvocationTargetException;
import java.lang.reflect.Method;
import java.util.ArrayList;
import java.util.List;
import java.util.Random;
import java.util.TreeMap;

/** Drawn runs of calls: each answer of the class against that of the Model. */
public final class ModelTest {
    private static final TreeMap<String, Method> OURS = new TreeMap<>();
    private static final TreeMap<String, Method> THEIRS = new TreeMap<>();
    private static final int[] ODD = {Integer.MIN_VALUE, Integer.MAX_VALUE, -1000000, 1000000, -2, 201, 256};

    private final Random random;
    private final SlotBuses ours = new SlotBuses();
    private final Model theirs = new Model();
    private final List<String> told = new ArrayList<>();
    private boolean wrong = false;

    private ModelTest(long seed) {
        random = new Random(seed);
    }

    private static Object answer(Method method, Object on, Object[] args) {
        try {
            return method.invoke(on, args);
        } catch (InvocationTargetException e) {
            return e.getCause().getClass().getName();
        } catch (IllegalAccessException e) {
            return "no access";
        }
    }

    private void call(String name, Object... args) {
        if (wrong) {
            return;
        }
        Object got = answer(OURS.get(name), ours, args);
        Object want = answer(THEIRS.get(name), theirs, args);
        told.add(name + java.util.Arrays.toString(args) + " = " + want);
        if (!got.equals(want)) {
            wrong = true;
            for (String t : told.subList(Math.max(0, told.size() - 60), told.size())) {
                if (!t.startsWith("line") || t.equals(told.get(told.size() - 1))) {
                    System.out.println("  " + t);
                }
            }
            System.out.println(name + java.util.Arrays.toString(args) + " answered " + got + ", the Model says " + want);
        }
    }

    private int some(int from, int to) {
        return random.nextInt(400) == 0 ? ODD[random.nextInt(ODD.length)] : from + random.nextInt(to - from + 1);
    }

    private int station() {
        return random.nextInt(12) == 0 ? some(-1, 8) : random.nextInt(Math.max(1, theirs.count(0)));
    }

    private int hop() {
        return random.nextInt(12) == 0 ? some(-1, 8) : random.nextInt(Math.max(1, theirs.count(0) - 1));
    }

    private int level() {
        return random.nextInt(12) == 0 ? some(-1, 3) : random.nextInt(Math.max(1, theirs.rule(3)));
    }

    private int far() {
        return random.nextInt(10) == 0 ? some(-1, 202) : 1 + random.nextInt(30);
    }

    private void feed(String text) {
        call("end", 0);
        for (int at = 0; at < text.length(); at += 20) {
            call("feed", Check.pack(text, at), Check.pack(text, at + 4), Check.pack(text, at + 8), Check.pack(text, at + 12),
                Check.pack(text, at + 16));
        }
    }

    private String rowText() {
        StringBuilder t = new StringBuilder();
        if (random.nextInt(8) != 0) {
            t.append("s");
            if (random.nextInt(4) != 0) t.append("n").append(2 + random.nextInt(7));
            if (random.nextInt(2) != 0) t.append("d").append(random.nextInt(4));
            if (random.nextInt(2) != 0) t.append("b").append(random.nextInt(4));
            if (random.nextInt(2) != 0) t.append("l").append(1 + random.nextInt(3));
            if (random.nextInt(2) != 0) t.append("e").append(random.nextInt(256));
        }
        int waits = t.length() == 0 ? 1 + random.nextInt(8) : random.nextInt(9);
        for (int i = 0; i < waits; i++) {
            if (t.length() > 0) t.append(";");
            t.append("q");
            if (random.nextInt(3) != 0) t.append("f").append(random.nextInt(8));
            if (random.nextInt(3) != 0) t.append("t").append(random.nextInt(8));
            if (random.nextInt(3) == 0) t.append("l").append(random.nextInt(3));
            if (random.nextInt(3) != 0) t.append("m").append(1 + random.nextInt(9));
        }
        return t.toString();
    }

    private String scriptText() {
        StringBuilder t = new StringBuilder();
        int steps = 1 + random.nextInt(16);
        for (int i = 0; i < steps; i++) {
            if (i > 0) t.append(";");
            int n = Math.max(2, theirs.count(0));
            switch (random.nextInt(7)) {
                case 0: t.append("q").append(random.nextInt(n)).append(",").append(random.nextInt(n)).append(",")
                    .append(random.nextInt(10) == 0 ? 1 : 0).append(",").append(random.nextInt(9) + 1); break;
                case 1: case 2: t.append("t").append(random.nextInt(8) == 0 ? random.nextInt(70) : 1 + random.nextInt(9)); break;
                case 3: t.append(random.nextBoolean() ? "c" : "h").append(random.nextInt(n)); break;
                case 4: t.append("e").append(random.nextInt(n)); break;
                case 5: t.append("w").append(random.nextInt(n)).append(",").append(random.nextInt(n)); break;
                default: t.append("r").append(random.nextInt(2)).append(",").append(random.nextInt(n)).append(",")
                    .append(random.nextInt(10)); break;
            }
        }
        return t.toString();
    }

    private void act() {
        switch (random.nextInt(20)) {
            case 0: call("cut", hop()); break;
            case 1: call("heal", hop()); break;
            case 2: call("eraser", station()); break;
            case 3: call("withdraw", station(), station()); break;
            case 4: call("reserve", some(0, 1), station(), some(0, 9)); break;
            case 5: call("reserve", some(-1, 2), station(), some(-1, 10)); break;
            case 6: if (random.nextInt(3) == 0) call("years", some(-1, 41), random.nextLong()); break;
            case 7: if (random.nextInt(3) == 0) call("years", 1 + random.nextInt(40), (long) random.nextInt(5)); break;
            case 8: for (int i = random.nextInt(4); i >= 0; i--) call("undo"); break;
            case 9: call(random.nextInt(4) == 0 ? "back" : "image"); break;
            case 10: call("perform", some(-1, 4)); break;
            case 11: call("tick", some(-1, 61)); break;
            case 12: case 13: case 14: call("tick", 1 + random.nextInt(4)); break;
            default: call("come", station(), station(), level(), some(0, 10)); break;
        }
    }

    private void ask() {
        switch (random.nextInt(20)) {
            case 0: case 1: call("ahead", far(), some(-1, 3)); break;
            case 2: case 3: call("when", some(-1, Math.max(1, theirs.all(6)))); break;
            case 4: call("next", some(-1, 20)); break;
            case 5: call("drained"); break;
            case 6: call("share", station(), far()); break;
            case 7: call("fair", some(-1, 101), some(-1, 2)); break;
            case 8: case 9: case 10: call("firstCome"); break;
            case 11: call("worst", some(-1, 2)); break;
            case 12: call("gain", far(), some(-1, 2)); break;
            case 13: call("spread", some(-1, 4)); break;
            case 14: call("mean", station(), some(-1, 2)); break;
            case 15: case 16: call("hurt", some(0, 1), station(), some(0, 9), far()); break;
            case 17: call("run", some(-1, 4), some(-1, 2)); break;
            case 18: call("fault", some(-1, 2)); break;
            default: call("log", some(-1, 61), some(-1, 3)); call("arrival", some(-1, 41), some(-1, 4)); break;
        }
    }

    /** All that can be asked of what is now. */
    private void look() {
        for (int what = -1; what <= 11; what++) {
            call("all", what);
            call("rule", what);
            call("count", what);
            call("status", what);
            call("reserved", what - 2, 0);
            call("reserved", 0, what);
            call("reserved", 1, what);
            call("spread", what);
        }
        for (int s = 0; s <= theirs.count(0); s++) {
            for (int what = -1; what <= 6; what++) {
                call("station", s, what);
                call("mean", s, what);
                for (int bus = 0; bus < 2; bus++) {
                    call("hop", s, bus, what);
                    for (int level = 0; level <= Math.max(0, theirs.rule(3)); level++) {
                        call("line", s, bus, level, what);
                        call("waiting", s, bus, level, random.nextInt(6), what);
                    }
                }
            }
        }
        for (int i = 0; i < 61; i++) {
            for (int what = 0; what < 4; what++) {
                call("log", i, what);
                call("arrival", i, what);
            }
        }
    }

    private boolean go() {
        if (random.nextInt(10) == 0) {
            act();
            ask();
            look();
        }
        boolean late = random.nextInt(40) == 0;
        for (int part = 0; part < 2 && !wrong; part++) {
            feed(rowText());
            call("text", 0);
            if (late) {
                for (int i = 0; i < 166; i++) call("tick", 60);
            }
            for (int i = 0; i < 90 && !wrong; i++) {
                act();
                if (random.nextInt(2) == 0) ask();
                if (random.nextInt(30) == 0) look();
                if (random.nextInt(25) == 0) {
                    feed(scriptText());
                    call("text", some(1, 1));
                    for (int k = 0; k < 17; k++) {
                        for (int what = -1; what < 6; what++) call("step", some(-1, 4), k, what);
                    }
                }
            }
            look();
        }
        return wrong;
    }

    public static void main(String[] args) {
        for (Method m : SlotBuses.class.getMethods()) OURS.put(m.getName(), m);
        for (Method m : Model.class.getMethods()) THEIRS.put(m.getName(), m);
        int runs = args.length > 1 ? Integer.parseInt(args[1]) : 150;
        long from = args.length > 2 ? Long.parseLong(args[2]) : 0;
        long calls = 0;
        for (long seed = from; seed < from + runs; seed++) {
            ModelTest test = new ModelTest(seed);
            if (test.go()) {
                System.out.println("(seed " + seed + ")");
                System.exit(1);
            }
            calls += test.told.size();
        }
        System.out.println(calls + " calls answered as the Model does");
    }
}
