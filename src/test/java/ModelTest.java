import java.lang.reflect.InvocationTargetException;
import java.lang.reflect.Method;
import java.util.Arrays;
import java.util.Comparator;
import java.util.Map;
import java.util.SplittableRandom;

/** All promises: long runs of calls, each answered by the class and by YardModel alike. */
public final class ModelTest {
    private static final int RUNS = 2500;
    private static final int CALLS = 256;

    /** What each number of a call is: of these letters valueOf() knows the usual ones. */
    private static final Map<String, String> SORTS = Map.ofEntries(
            Map.entry("join", "t.kl"), Map.entry("offer", "t.kl"), Map.entry("push", "tkl"),
            Map.entry("append", "tkl"), Map.entry("train", "tklm"), Map.entry("take", "t."),
            Map.entry("poll", "t."), Map.entry("pop", "t"), Map.entry("serve", "t."),
            Map.entry("rotate", "tr"), Map.entry("undo", ""), Map.entry("drop", "tk."),
            Map.entry("dropAll", "tk"), Map.entry("shed", "t.ln"), Map.entry("thin", "t.s"),
            Map.entry("turn", "t"), Map.entry("clear", "t"), Map.entry("purge", "."),
            Map.entry("walk", "."), Map.entry("step", ""), Map.entry("pluck", ""),
            Map.entry("insert", "pkl"), Map.entry("cut", "p"), Map.entry("replace", "pkl"),
            Map.entry("at", "p"), Map.entry("find", "k."), Map.entry("splice", "p"),
            Map.entry("shunt", "pn"), Map.entry("stand", "tp"), Map.entry("forth", "t"),
            Map.entry("back", "t"), Map.entry("takeHeld", "t"), Map.entry("setHeld", "tkl"),
            Map.entry("put", "tkl"), Map.entry("where", "t5"), Map.entry("order", "8"),
            Map.entry("work", "w"), Map.entry("cancel", "8."), Map.entry("ask", "t6"),
            Map.entry("ofTrack", "t4"), Map.entry("has", "tk"), Map.entry("compare", "."),
            Map.entry("text", "t."), Map.entry("nested", "t"), Map.entry("heaviest", "tnp"),
            Map.entry("ahead", "tp"), Map.entry("yard", "8"), Map.entry("knock", ""),
            Map.entry("isSound", ""), Map.entry("digest", ""));

    private static final Checks c = new Checks("ModelTest");

    public static void main(String[] args) throws Exception {
        Method[] methods = Arrays.stream(Twoends.class.getDeclaredMethods())
                .filter(m -> SORTS.containsKey(m.getName()))
                .sorted(Comparator.comparing(Method::getName))
                .toArray(Method[]::new);
        c.same("methods of the face", SORTS.size(), methods.length);
        SplittableRandom chance = new SplittableRandom(51);
        for (int run = 0; run < RUNS; run++) {
            run(run, methods, chance);
        }
        c.end();
    }

    private static void run(int run, Method[] methods, SplittableRandom chance) throws Exception {
        Twoends x = new Twoends();
        YardModel model = new YardModel();
        int[] weights = weights(methods, chance);
        StringBuilder told = new StringBuilder();
        for (int call = 0; call < CALLS; call++) {
            Method method = methods[drawn(weights, chance)];
            Object[] values = values(SORTS.get(method.getName()), method, model, chance);
            Method twin = YardModel.class.getMethod(method.getName(), method.getParameterTypes());
            String want = answer(twin, model, values);
            String got = answer(method, x, values);
            told.append('\n').append(method.getName()).append(Arrays.toString(values)).append(" = ").append(want);
            c.same("run " + run + " call " + call + " " + method.getName() + Arrays.toString(values), want, got);
            long due = model.digest();
            long digest = x.digest();
            c.same("run " + run + " call " + call + " digest", due, digest);
            if (!want.equals(got) || due != digest) {
                System.out.println("the run till then:" + told);
                return;
            }
        }
    }

    /** Each run has its own mood, so that tracks grow full in some and stay small in others. */
    private static int[] weights(Method[] methods, SplittableRandom chance) {
        int[] moods = {0, 1, 1, 3, 12};
        int[] weights = new int[methods.length];
        for (int k = 0; k < weights.length; k++) {
            weights[k] = moods[chance.nextInt(moods.length)];
        }
        for (int k = 0; k < weights.length; k++) {
            boolean isRough = Arrays.asList("clear", "purge", "dropAll", "shed").contains(methods[k].getName());
            weights[k] = isRough ? Math.min(1, weights[k]) : weights[k];
        }
        weights[0]++;
        return weights;
    }

    private static int drawn(int[] weights, SplittableRandom chance) {
        int rest = chance.nextInt(Arrays.stream(weights).sum());
        int k = 0;
        while (rest >= weights[k]) {
            rest -= weights[k];
            k++;
        }
        return k;
    }

    private static Object[] values(String sorts, Method method, YardModel model, SplittableRandom chance) {
        Object[] values = new Object[method.getParameterCount()];
        for (int k = 0; k < values.length; k++) {
            values[k] = sorts.charAt(k) == '.' ? (Object) chance.nextBoolean()
                    : (Object) valueOf(sorts.charAt(k), model, chance);
        }
        return values;
    }

    private static int valueOf(char sort, YardModel model, SplittableRandom chance) {
        if (chance.nextInt(60) == 0) {
            int[] odd = {-1, 0, 2, 7, 8, 10, 13, 20, 21, 99, 100, Integer.MIN_VALUE, Integer.MAX_VALUE};
            return odd[chance.nextInt(odd.length)];
        }
        switch (sort) {
            case 't':
                return chance.nextInt(2);
            case 'k':
                return chance.nextInt(10);
            case 'l':
                return chance.nextInt(100);
            case 'm':
                return 1 + chance.nextInt(12);
            case 'n':
                return 1 + chance.nextInt(chance.nextBoolean() ? 4 : 20);
            case 'r':
                return chance.nextInt(13) - 6;
            case 's':
                return 2 + chance.nextInt(4);
            case 'w':
                return 1 + chance.nextInt(10);
            case 'p':
                return Math.min(20, chance.nextInt(model.ofTrack(1, 0) + 2));
            default:
                return chance.nextInt(sort - '0');
        }
    }

    private static String answer(Method method, Object of, Object[] values) throws IllegalAccessException {
        try {
            return String.valueOf(method.invoke(of, values));
        } catch (InvocationTargetException e) {
            return "throws." + e.getCause().getClass().getName();
        }
    }
}
