import java.lang.reflect.InvocationTargetException;
import java.lang.reflect.Method;
import java.util.Arrays;
import java.util.Random;

/** Runs of calls drawn by fixed seeds, on SourceRoutes and on the Model: every answer has to be the same. */
public final class ModelTest {
    private static final int RUNS = 600;
    private static final int CALLS = 512;
    private static final String[] WORDS =
        {"nodes", "hops", "room", "table", "buffer", "wait", "again", "salvage", "link", "map", "deaf"};

    private final Random random;
    private final SourceRoutes object = new SourceRoutes();
    private final Model model = new Model();
    private final StringBuilder calls = new StringBuilder();
    private final int kind;
    private int made;
    private boolean wrong;

    private ModelTest(int seed) {
        random = new Random(seed * 7919L + 1);
        kind = seed % 4;
    }

    private static Object call(Object on, Method method, Object[] args) {
        try {
            method.setAccessible(true);
            return method.invoke(on, args);
        } catch (InvocationTargetException | IllegalAccessException e) {
            throw new IllegalStateException(method.getName() + Arrays.toString(args), e);
        }
    }

    private void both(String name, Object... args) {
        if (wrong || made >= CALLS) {
            return;
        }
        made++;
        Object got = call(object, find(SourceRoutes.class, name), args);
        Object want = call(model, find(Model.class, name), args);
        calls.append("  ").append(name).append(Arrays.toString(args)).append(" ").append(want).append("\n");
        if (!got.equals(want)) {
            wrong = true;
            System.out.print(calls);
            System.out.println("  answered " + got);
        }
    }

    private static Method find(Class<?> in, String name) {
        for (Method m : in.getDeclaredMethods()) {
            if (m.getName().equals(name) && !m.isSynthetic()) {
                return m;
            }
        }
        throw new IllegalStateException(name);
    }

    private void tellAndRead(String text) {
        for (long eight : Check.eights(text)) {
            both("say", eight);
        }
        both("net");
        both("fault", false);
        both("fault", true);
    }

    /** Mostly large nets with many LINKS, as there most can happen. */
    private String goodNet() {
        StringBuilder s = new StringBuilder();
        int nodes = random.nextInt(3) == 0 ? 2 + random.nextInt(7) : 6 + random.nextInt(3);
        s.append("nodes ").append(nodes).append(";");
        int part = kind == 3 ? 60 + random.nextInt(60) : 15 + random.nextInt(40);
        for (int a = 0; a < nodes; a++) {
            for (int b = a + 1; b < nodes; b++) {
                if (random.nextInt(100) < part && s.length() < 300) {
                    s.append("link").append(a).append(" ").append(b).append(";");
                }
            }
        }
        setting(s, "hops", 1, 7);
        setting(s, "room", 1, 6);
        setting(s, "table", 1, 6);
        setting(s, "buffer", 1, 4);
        setting(s, "wait", 1, 20);
        setting(s, "again", 1, 9);
        setting(s, "salvage", 0, 3);
        for (int n = 0; n < nodes; n++) {
            if (random.nextInt(3) == 0) {
                s.append("map ").append(n).append(";");
            }
            if (random.nextInt(5) == 0) {
                s.append("deaf ").append(n).append(";");
            }
        }
        return s.length() > 400 ? s.substring(0, s.lastIndexOf(";", 398) + 1) : s.toString();
    }

    private void setting(StringBuilder s, String word, int least, int most) {
        if (random.nextInt(3) == 0) {
            s.append(word).append(" ").append(least + random.nextInt(most - least + 1)).append(";\n");
        }
    }

    private String oddNet() {
        StringBuilder s = new StringBuilder();
        for (int k = random.nextInt(12); k > 0; k--) {
            String word = WORDS[random.nextInt(WORDS.length)];
            s.append(word).append(random.nextBoolean() ? " " : "").append(random.nextInt(9));
            if (word.equals("link")) {
                s.append(random.nextInt(20) == 0 ? "" : " ").append(random.nextInt(9));
            }
            s.append(random.nextBoolean() ? ";" : " ;\n");
        }
        for (int k = random.nextInt(3); k > 0 && s.length() > 0; k--) {
            int at = random.nextInt(s.length());
            String other = "az09;; \n\t-{`/:".charAt(random.nextInt(14)) + "";
            s.replace(at, at + random.nextInt(2), random.nextBoolean() ? other : "");
        }
        return s.toString();
    }

    private int someNode() {
        return random.nextInt(25) == 0 ? random.nextInt(14) - 3 : random.nextInt(Math.max(1, model.has(0)));
    }

    private int some(int most) {
        return random.nextInt(40) == 0 ? random.nextInt(most + 8) - 4 : random.nextInt(most + 1);
    }

    private void act() {
        int die = random.nextInt(100);
        if (die < (kind == 0 ? 25 : 45)) {
            both("send", someNode(), someNode());
        } else if (die < (kind == 1 ? 45 : 60)) {
            both("turn", someNode(), someNode(), random.nextBoolean());
        } else if (die < 94) {
            both("ticks", random.nextInt(5) == 0 ? some(6) : 1 + random.nextInt(2));
        } else if (die < 96) {
            both("image", some(2));
        } else if (die < 98) {
            both("again", some(2));
        } else {
            both("say", random.nextInt(3) == 0 ? random.nextLong() : 0x6c696e6b20302031L);
        }
    }

    private void question() {
        switch (random.nextInt(26)) {
            case 0: both("has", some(11)); break;
            case 1: both("node", someNode(), some(9)); break;
            case 2: both("kept", someNode(), some(5), some(4)); break;
            case 3: both("seen", someNode(), some(5)); break;
            case 4: both("waits", someNode(), some(3)); break;
            case 5: both("way", someNode(), someNode(), some(4)); break;
            case 6: both("hops", someNode(), someNode()); break;
            case 7: both("data", some(Math.max(0, model.has(9) - 1)), some(8)); break;
            case 8: both("trail", some(Math.max(0, model.has(9) - 1)), some(4), random.nextBoolean()); break;
            case 9: both("air", some(Math.max(0, model.has(10) - 1)), some(5)); break;
            case 10: both("row", some(Math.max(0, model.has(10) - 1)), some(5)); break;
            case 11: both("tally", some(10)); break;
            case 12: both("far", someNode(), someNode()); break;
            case 13: both("holders", someNode(), someNode()); break;
            case 14: both("stale", someNode()); break;
            case 15: both("sound", someNode(), someNode()); break;
            case 16: both("mapped", someNode(), someNode()); break;
            case 17: both("bridges", someNode(), someNode()); break;
            case 18: both("ahead", some(6), some(12)); break;
            case 19: both("turned", someNode(), someNode(), some(6), some(12)); break;
            case 20: both("sent", someNode(), someNode(), some(6), some(8)); break;
            case 21: both("flood", someNode(), someNode(), random.nextBoolean()); break;
            case 22: both("quiet"); break;
            case 23: both("fault", random.nextBoolean()); break;
            default: both("tally", some(10)); break;
        }
    }

    /** All that can be asked of the state, so that nothing hides. */
    private void lookAtAll() {
        made = -100000;
        for (int what = -1; what <= 12; what++) {
            both("has", what);
            both("tally", what);
            for (int n = -1; n <= 8; n++) {
                both("node", n, what);
            }
        }
        for (int n = 0; n < 8; n++) {
            for (int k = 0; k < 18; k++) {
                both("seen", n, k);
                both("waits", n, k);
                for (int i = 0; i < 9; i++) {
                    both("kept", n, k, i);
                }
            }
        }
        for (int k = 0; k <= 40; k++) {
            for (int i = -1; i < 10; i++) {
                both("data", k, i);
                both("trail", k, i, true);
                both("trail", k, i, false);
                both("air", k, i);
                both("row", k, i);
            }
        }
        made = CALLS;
    }

    /** So much is sent at once that THE AIR gets full. */
    private void crowd() {
        for (int round = 0; round < 2; round++) {
            for (int k = 8 + random.nextInt(10); k > 0; k--) {
                both("send", someNode(), someNode());
            }
            for (int k = 0; k < 3; k++) {
                both("ticks", 1);
                both("ahead", 2, 8);
                both("quiet");
                both("turn", someNode(), someNode(), random.nextBoolean());
            }
        }
    }

    private boolean run() {
        if (kind == 2) {
            for (int k = 0; k < 4; k++) {
                tellAndRead(oddNet());
            }
        }
        tellAndRead(goodNet());
        if (kind == 3) {
            crowd();
        }
        int anew = kind == 2 ? CALLS / 2 : CALLS;
        while (made < CALLS && !wrong) {
            if (made >= anew) {
                anew = CALLS;
                both("say", 0x2020202020202000L);
                both("net");
                tellAndRead(goodNet());
            }
            if (random.nextInt(kind == 3 ? 5 : 2) == 0) {
                question();
            } else {
                act();
            }
        }
        lookAtAll();
        return !wrong;
    }

    private void count(long[] sums) {
        for (int what = 0; what < 11; what++) {
            sums[what] += model.tally(what);
        }
    }

    public static void main(String[] args) {
        int runs = args.length > 0 ? Integer.parseInt(args[0]) : RUNS;
        long[] sums = new long[11];
        for (int seed = 0; seed < runs; seed++) {
            ModelTest test = new ModelTest(seed);
            if (!test.run()) {
                System.out.println("the run with seed " + seed + " is not as the Model has it");
                System.exit(1);
            }
            test.count(sums);
        }
        for (int what = 0; what < 11; what++) {
            if (sums[what] == 0) {
                System.out.println("no run had anything in tally " + what);
                System.exit(1);
            }
        }
        System.out.println("ModelTest: " + runs + " runs are as the Model has them; tallies " + Arrays.toString(sums));
    }
}
