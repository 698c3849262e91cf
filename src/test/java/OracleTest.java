import java.lang.reflect.InvocationTargetException;
import java.lang.reflect.Method;
import java.lang.reflect.Modifier;
import java.util.Arrays;
import java.util.Comparator;
import java.util.NoSuchElementException;
import java.util.Random;

/** Random towns and calls: each answer, and trouble() behind it, against the slow second way. */
public final class OracleTest {
    private static final int RUNS = 4000;
    private static final int SPOILT = 60000;
    private static final int[] EDGES = {-1, -2, 59, 60, 65536, 65537, Integer.MIN_VALUE, Integer.MAX_VALUE};
    /** Acts, more often than their share of the calls, so that what is now differs from what is told. */
    private static final String[] ACTS = {"brick", "brick", "open", "hire", "hire", "dismiss", "undo"};
    private static final Method[] CALLS = Arrays.stream(ThirdWitness.class.getDeclaredMethods())
        .filter(m -> Modifier.isPublic(m.getModifiers())).sorted(Comparator.comparing(Method::getName)).toArray(Method[]::new);
    private static final Method[] SAME = new Method[CALLS.length];
    private static final String[] NAMES = new String[CALLS.length];

    private OracleTest() {
    }

    public static void main(String[] args) throws Exception {
        for (int call = 0; call < CALLS.length; call++) {
            NAMES[call] = CALLS[call].getName();
            SAME[call] = Oracle.class.getDeclaredMethod(NAMES[call], CALLS[call].getParameterTypes());
        }
        int runs = args.length > 0 ? Integer.parseInt(args[0]) : RUNS;
        int[] called = new int[CALLS.length];
        for (int seed = 0; seed < runs; seed++) {
            run(new Random(seed), "run " + seed, called);
        }
        int[] faults = new int[8];
        for (int seed = 0; seed < SPOILT; seed++) {
            spoil(new Random(seed), "spoilt " + seed, faults);
        }
        // each call and each fault must have come, else this tests less than it says
        for (int call = 0; call < called.length; call++) {
            Check.due(NAMES[call] + " was called", called[call] > 50 ? 1 : 0, 1);
        }
        for (int fault = 0; fault < faults.length; fault++) {
            Check.due("fault " + fault + " came", faults[fault] > 50 ? 1 : 0, 1);
        }
        Check.close();
    }

    private static String text(Random random) {
        Texts texts = new Texts(random);
        return texts.ended(texts.sound());
    }

    private static void tell(ThirdWitness x, Oracle o, String text, String run) {
        Check.feed(x, text);
        Texts.feed(o, text);
        int length = text.length() + (text.length() % 20 == 0 ? 0 : text.length() % 3 == 0 ? 1 : 0);
        Check.due(run + " town: " + text, x.town(length), o.town(length));
        same(run + " town: " + text, x, o);
    }

    private static void same(String call, ThirdWitness x, Oracle o) {
        Check.due(call + " trouble", x.trouble(), o.trouble());
        Check.due(call + " fault", x.fault(), o.fault());
        Check.due(call + " where", x.where(), o.where());
    }

    private static void spoil(Random random, String run, int[] faults) {
        Texts texts = new Texts(random);
        String text = texts.spoilt(texts.sound());
        if (text.length() > 900) {
            return;
        }
        ThirdWitness x = new ThirdWitness();
        Oracle o = new Oracle();
        tell(x, o, text, run);
        faults[o.fault()]++;
        for (int what = 0; what <= 11; what++) {
            Check.due(run + " size(" + what + "): " + text, x.size(what), o.size(what));
        }
    }

    private static void run(Random random, String run, int[] called) throws Exception {
        ThirdWitness x = new ThirdWitness();
        Oracle o = new Oracle();
        String text = text(random);
        if (text.length() > 900) {
            return;
        }
        if (random.nextInt(20) != 0) {
            tell(x, o, text, run);
        }
        for (int i = 0; i < 120; i++) {
            if (random.nextInt(400) == 0) {
                String next = text(random);
                text = next.length() <= 900 ? next : text;
                tell(x, o, text, run);
            }
            String name = random.nextInt(3) == 0 ? ACTS[random.nextInt(ACTS.length)] : NAMES[random.nextInt(NAMES.length)];
            int call = Arrays.asList(NAMES).indexOf(name);
            Object[] with = new Object[CALLS[call].getParameterCount()];
            for (int k = 0; k < with.length; k++) {
                boolean flag = CALLS[call].getParameterTypes()[k] == boolean.class;
                with[k] = flag ? (Object) random.nextBoolean() : (Object) number(random, name, k);
            }
            called[call]++;
            String told = run + " " + name + Arrays.toString(with) + " of " + text;
            Check.due(told, answer(CALLS[call], x, with), answer(SAME[call], o, with));
            Check.due(told + " trouble", x.trouble(), o.trouble());
        }
    }

    private static int number(Random random, String name, int at) {
        int way = random.nextInt(40);
        if (way == 0) {
            return random.nextInt();
        }
        if (way == 1) {
            return EDGES[random.nextInt(EDGES.length)];
        }
        if (name.startsWith("endsBy") && at == 1 || name.equals("wins") && at == 1) {
            return random.nextInt(65537);
        }
        if (name.equals("wins") && at == 2) {
            return random.nextInt(33);
        }
        return random.nextInt(8) == 0 ? random.nextInt(60) : random.nextInt(random.nextInt(3) == 0 ? 7 : 3);
    }

    private static long answer(Method call, Object on, Object[] with) throws Exception {
        try {
            Object answer = call.invoke(on, with);
            return answer instanceof Boolean ? (Boolean) answer ? 1 : 0 : ((Number) answer).longValue();
        } catch (InvocationTargetException e) {
            if (e.getCause() instanceof NoSuchElementException) {
                return Long.MIN_VALUE;
            }
            throw e;
        }
    }
}
