import java.lang.management.ManagementFactory;
import java.lang.reflect.Constructor;
import java.lang.reflect.Field;
import java.lang.reflect.InvocationTargetException;
import java.lang.reflect.Method;
import java.lang.reflect.Modifier;
import java.util.ArrayList;
import java.util.List;
import java.util.NoSuchElementException;
import java.util.TreeSet;

/** The face and no more; any arguments in any state; and that calls make nothing. */
public final class RoomTest {
    private static final String FACE = "feed(5) town(1) fault(0) where(0) person(2) sight(2) quarrel(2) at(2) into(1) "
        + "watchers(2) eyes(2) hidden(1) square(0) ends(1) endsAt(1) lead(1) seen(1) third(1) won(0) nurse(0) endsIf(3) "
        + "cellars(1) hour(1) longest(1) moor(1) bricks(1) stoppers(1) price(1) stoppedIf(2) bestHire(0) fits(0) fitAt(1) "
        + "could(0) surely(0) ask(0) askLeaves(0) judge(0) swings(4) three(2) says(4) rests(1) rest(1) lasts(3) endsBy(2) "
        + "endsByAt(2) wins(3) brick(1) open(1) hire(2) dismiss(1) spent(0) undo(0) image(0) back(1) led(1) size(1) trouble(0)";
    private static final int[] NUMBERS = {Integer.MIN_VALUE, -65537, -2, -1, 0, 1, 2, 3, 4, 5, 6, 7, 8, 9, 10, 16, 30, 31,
        32, 33, 59, 60, 64, 900, 901, 65536, 65537, 0x20202020, Integer.MAX_VALUE};

    private RoomTest() {
    }

    public static void main(String[] args) throws Exception {
        face();
        anyArguments(new ThirdWitness(), "no town");
        anyArguments(Check.town("town boys 0;place a"), "a place alone");
        anyArguments(Check.town(Calls.FULL), "a full town");
        anyBytes();
        callsMakeNothing();
        Check.close();
    }

    private static void face() {
        TreeSet<String> due = new TreeSet<>(List.of(FACE.split(" ")));
        TreeSet<String> got = new TreeSet<>();
        for (Method m : ThirdWitness.class.getDeclaredMethods()) {
            if (!m.isSynthetic() && !Modifier.isPrivate(m.getModifiers())) {
                got.add(m.getName() + "(" + m.getParameterCount() + ")");
                Check.yes(m + " is public", Modifier.isPublic(m.getModifiers()) && !Modifier.isStatic(m.getModifiers()));
            }
        }
        Check.yes("the methods are those of the face: " + got, got.equals(due));
        for (Field f : ThirdWitness.class.getDeclaredFields()) {
            Check.yes(f + " is private", Modifier.isPrivate(f.getModifiers()) || f.getName().equals("NONE"));
        }
        for (Constructor<?> c : ThirdWitness.class.getDeclaredConstructors()) {
            Check.yes(c + " is public", Modifier.isPublic(c.getModifiers()) && c.getParameterCount() == 0);
        }
        Check.yes("the class is final", Modifier.isFinal(ThirdWitness.class.getModifiers()));
    }

    /** Each call with all of the numbers in each of its places, the others among a few of them. */
    private static void anyArguments(ThirdWitness x, String state) throws Exception {
        for (Method m : ThirdWitness.class.getDeclaredMethods()) {
            if (!Modifier.isPublic(m.getModifiers())) {
                continue;
            }
            for (Object[] with : arguments(m.getParameterTypes())) {
                Check.yes(state + ": " + m.getName() + " throws nothing else", goesWell(x, m, with));
            }
        }
    }

    private static boolean goesWell(ThirdWitness x, Method m, Object[] with) throws Exception {
        try {
            m.invoke(x, with);
            return true;
        } catch (InvocationTargetException e) {
            return m.getName().equals("led") && e.getCause().getClass() == NoSuchElementException.class;
        }
    }

    private static List<Object[]> arguments(Class<?>[] types) {
        List<Object[]> all = new ArrayList<>();
        if (types.length == 0) {
            all.add(new Object[0]);
        }
        for (int at = 0; at < types.length; at++) {
            for (int number : NUMBERS) {
                for (int other : new int[] {0, 1, 5, 60}) {
                    Object[] with = new Object[types.length];
                    for (int i = 0; i < types.length; i++) {
                        int n = i == at ? number : other;
                        with[i] = types[i] == boolean.class ? (Object) ((n & 1) != 0) : (Object) n;
                    }
                    all.add(with);
                }
            }
        }
        return all;
    }

    /** Texts of any bytes are faults, or towns, and nothing else. */
    private static void anyBytes() {
        java.util.Random random = new java.util.Random(3);
        for (int i = 0; i < 3000; i++) {
            ThirdWitness x = new ThirdWitness();
            int feeds = random.nextInt(46);
            for (int k = 0; k < feeds; k++) {
                x.feed(random.nextInt(), 0x20202020, random.nextInt(), 0x3b3b3b3b, random.nextInt());
            }
            int n = random.nextInt(20 * feeds + 1);
            Check.due("town of any bytes", x.town(n), -1);
            Check.yes("its place is in the text", x.where() >= 0 && x.where() <= n && x.fault() == 1);
        }
    }

    /** All rows are made by the constructor: of one room all calls of a run have to live in, calls take nothing. */
    private static void callsMakeNothing() {
        com.sun.management.ThreadMXBean threads =
            (com.sun.management.ThreadMXBean) ManagementFactory.getThreadMXBean();
        ThirdWitness x = new ThirdWitness();
        long sum = all(x);
        long id = Thread.currentThread().getId();
        long fewest = Long.MAX_VALUE;
        for (int i = 0; i < 20; i++) {
            long before = threads.getThreadAllocatedBytes(id);
            sum += all(x);
            fewest = Math.min(fewest, threads.getThreadAllocatedBytes(id) - before);
        }
        Check.due("bytes made by a round of all calls (" + sum + ")", fewest, 0);
        long before = threads.getThreadAllocatedBytes(id);
        ThirdWitness y = new ThirdWitness();
        long made = threads.getThreadAllocatedBytes(id) - before;
        Check.yes("an object takes " + made + " bytes", made < 16000 && y.size(0) == 0);
    }

    private static final int[] FULL_NUMBERS = numbers();

    private static int[] numbers() {
        StringBuilder padded = new StringBuilder(Calls.FULL);
        while (padded.length() % 20 != 0) {
            padded.append(' ');
        }
        int[] numbers = new int[padded.length() / 4];
        for (int i = 0; i < padded.length(); i++) {
            numbers[i / 4] = numbers[i / 4] << 8 | padded.charAt(i);
        }
        return numbers;
    }

    private static long all(ThirdWitness x) {
        for (int i = 0; i < FULL_NUMBERS.length; i += 5) {
            x.feed(FULL_NUMBERS[i], FULL_NUMBERS[i + 1], FULL_NUMBERS[i + 2], FULL_NUMBERS[i + 3], FULL_NUMBERS[i + 4]);
        }
        long sum = x.town(Calls.FULL.length()) + x.fault() + x.where() + x.image();
        sum += x.brick(0) && x.open(0) && x.back(0) && x.brick(1) && x.undo() ? 1 : 0;
        sum += x.hire(1, 1) + (x.dismiss(1) ? 1 : 0) + x.spent() + x.square() + x.hidden(3) + x.won() + x.nurse();
        for (int i = 0; i < 3; i++) {
            sum += x.person(i, i) + x.sight(i, i) + x.quarrel(i, i) + x.at(i, i) + x.into(i) + x.watchers(i, i) + x.eyes(i, i);
            sum += x.ends(i) + x.endsAt(i) + x.lead(i) + x.seen(i) + x.third(i) + x.endsIf(i, i, i) + x.cellars(i);
            sum += x.hour(i) + x.longest(i) + x.moor(i) + x.bricks(i) + x.stoppers(i) + x.price(i) + x.stoppedIf(i, i);
            sum += x.fitAt(i) + x.swings(i, i, i, true) + x.three(i, i) + x.says(i, true, false, true) + x.rests(i) + x.rest(i);
            sum += x.lasts(i, 6, true) + x.endsBy(i, i) + x.endsByAt(i, i) + x.wins(i, i, 30) + x.size(i);
        }
        sum += x.bestHire() + x.fits() + x.could() + x.surely() + x.ask() + x.askLeaves() + x.judge();
        return sum + x.trouble();
    }
}
