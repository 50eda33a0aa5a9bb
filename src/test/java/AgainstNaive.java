import java.lang.reflect.Method;
import java.util.ArrayList;
import java.util.Arrays;
import java.util.HashMap;
import java.util.List;
import java.util.Map;
import java.util.Random;

/** Many runs of calls, made from fixed seeds, on WorkedBack and on Naive: every answer must be one. */
public final class AgainstNaive {
    private static final Map<String, Method> REAL = new HashMap<>();
    private static final Map<String, Method> PLAIN = new HashMap<>();
    private static final String[] ASKING = {"fits", "needs", "judge", "lies", "all", "ends", "must", "plain", "near",
        "doubt", "changed", "cost", "costs", "buy", "settle", "hide", "about", "told", "fault"};

    private final Random random;
    private final WorkedBack real = new WorkedBack();
    private final Naive plain = new Naive();
    private final List<String> calls = new ArrayList<>();
    private int wrong;
    private int answers;
    private final Map<String, Integer> kinds;
    private int[] truth;
    private int roomy;
    /** The month in which one thing of the hidden mixture is changed; -1: it is not. */
    private int breakAt;

    private AgainstNaive(long seed, Map<String, Integer> kinds) {
        random = new Random(seed);
        this.kinds = kinds;
    }

    private int call(String name, int... args) {
        Object[] boxed = Arrays.stream(args).boxed().toArray();
        try {
            int due = (Integer) PLAIN.get(name).invoke(plain, boxed);
            int got = (Integer) REAL.get(name).invoke(real, boxed);
            calls.add(name + Arrays.toString(args) + " " + got);
            answers++;
            kinds.merge(name + (due < 0 ? " " + due : ""), 1, Integer::sum);
            if (got != due && wrong++ < 3) {
                System.out.println("got " + got + ", due " + due + ": " + calls);
            }
            return due;
        } catch (ReflectiveOperationException e) {
            System.out.println("threw " + e.getCause() + ": " + name + Arrays.toString(args) + " behind " + calls);
            wrong++;
            return 0;
        }
    }

    private int to(int most) {
        return random.nextInt(most + 1);
    }

    /** Mostly a number that is allowed; now and then one next to it. */
    private int nearly(int most) {
        return random.nextInt(25) == 0 ? (random.nextBoolean() ? -1 : most + 1) : to(most);
    }

    private void setUp() {
        roomy = random.nextInt(3);
        breakAt = random.nextInt(3) == 0 ? 1 + to(4) : -1;
        truth = new int[6];
        for (int i = 0; i < 6; i++) truth[i] = random.nextInt(3) == 0 ? 0 : to(4);
        for (int t = 0; t < 3; t++) {
            if (roomy == 0) call("stock", t, 2, breakAt >= 0 ? to(1) : to(6));
            if (roomy == 1) call("stock", t, 2, to(40));
            if (random.nextInt(3) == 0) call("stock", t, 3, breakAt >= 0 ? to(1) : to(5));
            if (random.nextInt(3) == 0) {
                int most = to(roomy == 2 ? 99 : 12);
                call("stock", t, 1, most);
                call("stock", t, 0, to(most));
            }
        }
        if (random.nextInt(2) == 0) standOne();
        int months = random.nextInt(5) == 0 ? 8 : 1 + to(5);
        for (int m = 0; m < months; m++) {
            if (m == breakAt) changeTruth();
            addMonth();
        }
    }

    private void changeTruth() {
        int t = to(2);
        truth[t] = to(4);
        truth[3 + t] = to(4);
    }

    private void standOne() {
        int one = to(2);
        call("stand", one, (one + 1 + to(1)) % 3);
    }

    /** INs that go with a hidden mixture, give or take; now and then with another one. */
    private void addMonth() {
        int most = random.nextInt(4) == 0 ? 20 : random.nextInt(3) == 0 ? 8 : 4;
        int p = to(most), q = random.nextInt(3) == 0 ? 0 : to(most);
        int give = random.nextInt(2) == 0 ? 0 : to(breakAt >= 0 ? 1 : 5);
        boolean exact = breakAt >= 0 && random.nextInt(8) > 0;
        int[] prices = new int[3];
        for (int t = 0; t < 3; t++) prices[t] = random.nextInt(3) > 0 ? to(random.nextInt(3) == 0 ? 99 : 9) : 0;
        int[] in = new int[3];
        if (!exact && random.nextInt(12) == 0) truth[to(5)] = to(4);
        int standing = call("told", 3);
        for (int t = 0; t < 3; t++) {
            int by = t;
            if (standing >= 0 && t == standing % 10 && prices[standing / 10] < prices[t]) by = standing / 10;
            in[by] += p * truth[t] + q * truth[3 + t];
        }
        for (int t = 0; t < 3; t++) {
            int off = !exact && random.nextInt(4) == 0 ? to(6) - 3 : give == 0 ? 0 : to(2 * give) - give;
            in[t] = Math.max(0, Math.min(99, in[t] + off));
            if (!exact && random.nextInt(40) == 0) in[t] = to(99);
        }
        int m = call("month", in[0], in[1], in[2], give, p, q);
        for (int t = 0; t < 3 && m >= 0; t++) {
            if (prices[t] > 0) call("change", m, 6 + t, prices[t]);
        }
    }

    private void sayRule() {
        String wares = "pq", things = "abc", signs = "<>=";
        StringBuilder text = new StringBuilder();
        int tests = 1 + to(3);
        for (int i = 0; i < tests; i++) {
            if (i > 0) text.append(random.nextBoolean() ? '&' : '|');
            int terms = 1 + (random.nextBoolean() ? 0 : to(3));
            for (int j = 0; j < terms; j++) {
                if (j > 0) text.append('+');
                text.append(wares.charAt(to(1))).append(things.charAt(to(2)));
            }
            text.append(signs.charAt(to(2))).append(to(random.nextInt(4) == 0 ? 20 : 3 * terms));
        }
        if (random.nextInt(4) == 0) text.setCharAt(to(text.length() - 1), "pqabc+<>=&|019!~".charAt(to(15)));
        if (random.nextInt(6) == 0) text.setLength(to(text.length() - 1));
        for (int i = 0; i < text.length(); i++) {
            call("say", text.charAt(i));
            if (random.nextInt(10) == 0) call("fault");
        }
        call("fault");
        call("rule");
        if (random.nextInt(3) > 0) call("wipe");
    }

    private void alter() {
        int months = call("told", 0);
        switch (random.nextInt(12)) {
            case 0: addMonth(); break;
            case 1: call("tear"); break;
            case 2: call("stock", nearly(2), 0, nearly(12)); break;
            case 3: call("stock", nearly(2), 1, nearly(12)); break;
            case 4: call("stock", nearly(2), 2, nearly(random.nextBoolean() ? 20 : 199)); break;
            case 5: call("stock", nearly(2), 3, nearly(5)); break;
            case 6: standOne(); break;
            case 7: call("stand", random.nextInt(4) - 1, random.nextInt(4) - 1); break;
            case 8: sayRule(); break;
            case 9: call("free"); break;
            case 10: call("image", nearly(1)); break;
            default: call("restore", nearly(1)); break;
        }
        for (int i = to(2); i > 0 && months > 0; i--) {
            int what = nearly(8);
            int m = nearly(months - 1);
            int was = call("about", m, what);
            int v = what < 3 && was >= 0 ? Math.max(0, was + to(4) - 2) : nearly(what == 3 ? 5 : what < 6 ? 6 : 20);
            call("change", m, what, v);
        }
    }

    private int mixture() {
        int count = random.nextInt(3) > 0 ? call("all", -1) : 0;
        if (count > 0) return call("all", to(count - 1));
        return random.nextInt(30) == 0 ? 15625 : to(15624);
    }

    private void ask(String name) {
        int months = call("told", 0);
        int m = random.nextInt(25) == 0 ? months : to(Math.max(0, months - 1));
        switch (name) {
            case "fits": call(name, mixture(), nearly(2)); break;
            case "needs": call(name, mixture(), m, nearly(2)); break;
            case "judge": call(name, mixture(), nearly(1)); break;
            case "lies": call(name, mixture(), nearly(2), m, nearly(1)); break;
            case "all": call(name, random.nextBoolean() ? to(50) - 3 : to(15630)); break;
            case "ends": call(name, nearly(1), nearly(2), nearly(1)); break;
            case "must": case "plain": case "near": case "doubt": call(name, nearly(1)); break;
            case "changed": call(name, nearly(3)); break;
            case "cost": call(name, mixture(), nearly(1), m); break;
            case "costs": call(name, nearly(1), m, nearly(1)); break;
            case "buy": call(name, nearly(2), nearly(20), nearly(20), nearly(1)); break;
            case "settle": call(name, nearly(2)); break;
            case "hide": call(name, nearly(random.nextBoolean() ? 60 : 999), nearly(3)); break;
            case "about": call(name, m, nearly(8)); break;
            case "told": call(name, to(24) - 1); break;
            default: call(name); break;
        }
    }

    private void run() {
        setUp();
        while (calls.size() < 300 && wrong == 0) {
            for (int i = 0; i < 12; i++) ask(ASKING[random.nextInt(ASKING.length)]);
            alter();
        }
    }

    public static void main(String[] args) {
        for (Method m : WorkedBack.class.getDeclaredMethods()) REAL.put(m.getName(), m);
        for (Method m : Naive.class.getDeclaredMethods()) {
            if (java.lang.reflect.Modifier.isPublic(m.getModifiers())) PLAIN.put(m.getName(), m);
        }
        int runs = args.length > 0 ? Integer.parseInt(args[0]) : 60;
        long seed = args.length > 1 ? Long.parseLong(args[1]) : 1;
        Map<String, Integer> kinds = new java.util.TreeMap<>();
        int wrong = 0;
        long answers = 0;
        for (int i = 0; i < runs; i++) {
            AgainstNaive test = new AgainstNaive(seed * 1000003 + i, kinds);
            test.run();
            if (test.wrong > 0) System.out.println("run " + i + " is wrong");
            wrong += test.wrong;
            answers += test.answers;
        }
        if (args.length > 2) System.out.println(kinds);
        System.out.println(answers + " answers held against Naive, " + wrong + " wrong");
        if (wrong > 0) System.exit(1);
    }
}
