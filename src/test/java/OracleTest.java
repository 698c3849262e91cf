import java.util.NoSuchElementException;
import java.util.Random;

/** Random towns and calls: each answer, and trouble() behind it, against the slow second way. */
public final class OracleTest {
    private static final int RUNS = 4000;
    private static final int SPOILT = 60000;
    /** Acts, more often than their share of the calls, so that what is now differs from what is told. */
    private static final int[] ACTS = {47, 47, 48, 49, 49, 50, 52};

    private OracleTest() {
    }

    public static void main(String[] args) {
        int runs = args.length > 0 ? Integer.parseInt(args[0]) : RUNS;
        int[] called = new int[58];
        for (int seed = 0; seed < runs; seed++) {
            run(new Random(seed), "run " + seed, called);
        }
        int[] faults = new int[8];
        for (int seed = 0; seed < SPOILT; seed++) {
            spoil(new Random(seed), "spoilt " + seed, faults);
        }
        // each call and each fault must have come, else this tests less than it says
        for (int call = 1; call < called.length; call++) {
            Check.due("call " + call + " was made", called[call] > 50 ? 1 : 0, 1);
        }
        for (int fault = 0; fault < faults.length; fault++) {
            Check.due("fault " + fault + " came", faults[fault] > 50 ? 1 : 0, 1);
        }
        Check.close();
    }

    private static String text(Random random) {
        Texts texts = new Texts(random);
        return texts.ended(texts.sound());
    }

    private static void tell(ThirdWitness x, Oracle o, String text, String run) {
        Check.feed(x, text);
        Texts.feed(o, text);
        int length = text.length() + (text.length() % 20 == 0 ? 0 : text.length() % 3 == 0 ? 1 : 0);
        Check.due(run + " town: " + text, x.town(length), o.town(length));
        same(run + " town: " + text, x, o);
    }

    private static void same(String call, ThirdWitness x, Oracle o) {
        Check.due(call + " trouble", x.trouble(), o.trouble());
        Check.due(call + " fault", x.fault(), o.fault());
        Check.due(call + " where", x.where(), o.where());
    }

    private static void spoil(Random random, String run, int[] faults) {
        Texts texts = new Texts(random);
        String text = texts.spoilt(texts.sound());
        if (text.length() > 900) {
            return;
        }
        ThirdWitness x = new ThirdWitness();
        Oracle o = new Oracle();
        tell(x, o, text, run);
        faults[o.fault()]++;
        for (int what = 0; what <= 11; what++) {
            Check.due(run + " size(" + what + "): " + text, x.size(what), o.size(what));
        }
    }

    private static void run(Random random, String run, int[] called) {
        ThirdWitness x = new ThirdWitness();
        Oracle o = new Oracle();
        String text = text(random);
        if (text.length() > 900) {
            return;
        }
        tell(x, o, text, run);
        for (int i = 0; i < 120; i++) {
            if (random.nextInt(400) == 0) {
                String next = text(random);
                text = next.length() <= 900 ? next : text;
                tell(x, o, text, run);
            }
            int call = random.nextInt(3) == 0 ? ACTS[random.nextInt(ACTS.length)] : 1 + random.nextInt(57);
            int[] n = {number(random, call), number(random, call), number(random, call)};
            boolean[] b = {random.nextBoolean(), random.nextBoolean(), random.nextBoolean()};
            called[call]++;
            String told = run + " call " + call + " " + n[0] + " " + n[1] + " " + n[2] + " of " + text;
            Check.due(told, answer(x, call, n, b), answer(o, call, n, b));
            Check.due(told + " trouble", x.trouble(), o.trouble());
        }
    }

    private static int number(Random random, int call) {
        int way = random.nextInt(40);
        if (way == 0) {
            return random.nextInt();
        }
        if (way == 1) {
            return new int[] {-1, -2, 59, 60, 65536, 65537, Integer.MIN_VALUE, Integer.MAX_VALUE}[random.nextInt(8)];
        }
        if (call >= 44 && call <= 46) {
            return random.nextInt(3) == 0 ? random.nextInt(31) : random.nextInt(2) == 0
                ? random.nextInt(65537) : random.nextInt(3);
        }
        return random.nextInt(8) == 0 ? random.nextInt(60) : random.nextInt(random.nextInt(3) == 0 ? 7 : 3);
    }

    private static long answer(ThirdWitness x, int call, int[] n, boolean[] b) {
        switch (call) {
            case 1: return x.feed(0x20202020, 0x20202020, 0x20202020, 0x20202020, 0x20202020);
            case 2: return x.town(n[0]);
            case 3: return x.fault();
            case 4: return x.where();
            case 5: return x.person(n[0], n[1]);
            case 6: return x.sight(n[0], n[1]);
            case 7: return x.quarrel(n[0], n[1]);
            case 8: return x.at(n[0], n[1]);
            case 9: return x.into(n[0]);
            case 10: return x.watchers(n[0], n[1]);
            case 11: return x.eyes(n[0], n[1]);
            case 12: return x.hidden(n[0]);
            case 13: return x.square();
            case 14: return x.ends(n[0]);
            case 15: return x.endsAt(n[0]);
            case 16: return x.lead(n[0]);
            case 17: return x.seen(n[0]);
            case 18: return x.third(n[0]);
            case 19: return x.won();
            case 20: return x.nurse();
            case 21: return x.endsIf(n[0], n[1], n[2]);
            case 22: return x.cellars(n[0]);
            case 23: return x.hour(n[0]);
            case 24: return x.longest(n[0]);
            case 25: return x.moor(n[0]);
            case 26: return x.bricks(n[0]);
            case 27: return x.stoppers(n[0]);
            case 28: return x.price(n[0]);
            case 29: return x.stoppedIf(n[0], n[1]);
            case 30: return x.bestHire();
            case 31: return x.fits();
            case 32: return x.fitAt(n[0]);
            case 33: return x.could();
            case 34: return x.surely();
            case 35: return x.ask();
            case 36: return x.askLeaves();
            case 37: return x.judge();
            case 38: return x.swings(n[0], n[1], n[2], b[0]);
            case 39: return x.three(n[0], n[1]);
            case 40: return x.says(n[0], b[0], b[1], b[2]);
            case 41: return x.rests(n[0]);
            case 42: return x.rest(n[0]);
            case 43: return x.lasts(n[0], n[1], b[0]);
            case 44: return x.endsBy(n[0] % 4, n[1]);
            case 45: return x.endsByAt(n[0] % 4, n[1]);
            case 46: return x.wins(n[0] % 4, n[1], n[2] % 33);
            case 47: return x.brick(n[0]) ? 1 : 0;
            case 48: return x.open(n[0]) ? 1 : 0;
            case 49: return x.hire(n[0], n[1]);
            case 50: return x.dismiss(n[0]) ? 1 : 0;
            case 51: return x.spent();
            case 52: return x.undo() ? 1 : 0;
            case 53: return x.image();
            case 54: return x.back(n[0]) ? 1 : 0;
            case 55:
                try {
                    return x.led(n[0]);
                } catch (NoSuchElementException e) {
                    return Long.MIN_VALUE;
                }
            case 56: return x.size(n[0]);
            default: return x.trouble();
        }
    }

    private static long answer(Oracle x, int call, int[] n, boolean[] b) {
        switch (call) {
            case 1: return x.feed(0x20202020, 0x20202020, 0x20202020, 0x20202020, 0x20202020);
            case 2: return x.town(n[0]);
            case 3: return x.fault();
            case 4: return x.where();
            case 5: return x.person(n[0], n[1]);
            case 6: return x.sight(n[0], n[1]);
            case 7: return x.quarrel(n[0], n[1]);
            case 8: return x.at(n[0], n[1]);
            case 9: return x.into(n[0]);
            case 10: return x.watchers(n[0], n[1]);
            case 11: return x.eyes(n[0], n[1]);
            case 12: return x.hidden(n[0]);
            case 13: return x.square();
            case 14: return x.ends(n[0]);
            case 15: return x.endsAt(n[0]);
            case 16: return x.lead(n[0]);
            case 17: return x.seen(n[0]);
            case 18: return x.third(n[0]);
            case 19: return x.won();
            case 20: return x.nurse();
            case 21: return x.endsIf(n[0], n[1], n[2]);
            case 22: return x.cellars(n[0]);
            case 23: return x.hour(n[0]);
            case 24: return x.longest(n[0]);
            case 25: return x.moor(n[0]);
            case 26: return x.bricks(n[0]);
            case 27: return x.stoppers(n[0]);
            case 28: return x.price(n[0]);
            case 29: return x.stoppedIf(n[0], n[1]);
            case 30: return x.bestHire();
            case 31: return x.fits();
            case 32: return x.fitAt(n[0]);
            case 33: return x.could();
            case 34: return x.surely();
            case 35: return x.ask();
            case 36: return x.askLeaves();
            case 37: return x.judge();
            case 38: return x.swings(n[0], n[1], n[2], b[0]);
            case 39: return x.three(n[0], n[1]);
            case 40: return x.says(n[0], b[0], b[1], b[2]);
            case 41: return x.rests(n[0]);
            case 42: return x.rest(n[0]);
            case 43: return x.lasts(n[0], n[1], b[0]);
            case 44: return x.endsBy(n[0] % 4, n[1]);
            case 45: return x.endsByAt(n[0] % 4, n[1]);
            case 46: return x.wins(n[0] % 4, n[1], n[2] % 33);
            case 47: return x.brick(n[0]) ? 1 : 0;
            case 48: return x.open(n[0]) ? 1 : 0;
            case 49: return x.hire(n[0], n[1]);
            case 50: return x.dismiss(n[0]) ? 1 : 0;
            case 51: return x.spent();
            case 52: return x.undo() ? 1 : 0;
            case 53: return x.image();
            case 54: return x.back(n[0]) ? 1 : 0;
            case 55:
                try {
                    return x.led(n[0]);
                } catch (NoSuchElementException e) {
                    return Long.MIN_VALUE;
                }
            case 56: return x.size(n[0]);
            default: return x.trouble();
        }
    }
}
