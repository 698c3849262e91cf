import java.util.ArrayList;
import java.util.List;

/** Promises 41 to 47 at their edges: each heat, each SEED, boys from 0 to 100 in a hundred, 0 to 6 minutes, 0 to 30 times. */
public final class SpeakEdgeTest {
    private static final String XY = "place a;place b;person x plain at b wit 3;person y plain at b wit 0;";
    private static final String NOBODY = "";
    private static final String TWO_EYES = "person u plain at a wit 0;";
    private static final String THREE_EYES = TWO_EYES + "person v babe at a wit 0;";
    private static final String FOUR_EYES = TWO_EYES + "person v deaf at a wit 0;";
    private static final String FIVE_EYES = FOUR_EYES + "person w babe at a wit 0;";
    private static final String SIX_EYES = FOUR_EYES + "person w plain at a wit 0;";

    private SpeakEdgeTest() {
    }

    public static void main(String[] args) {
        heats();
        lastsOfEachChance();
        lastsOfEachWay();
        lastsAtTheEnd();
        boysByEyes();
        seedsThatWrap();
        everySeed();
        drawsAgainstBoys();
        winsOneBehindTheOther();
        Check.close();
    }

    private static ThirdWitness town(int boys, String people, String quarrel) {
        return Check.town("town boys " + boys + ";" + XY + people + "quarrel q x y at a " + quarrel);
    }

    private static void heats() {
        ThirdWitness x = Check.town("town boys 0;place a");
        for (int heat = 0; heat <= 9; heat++) {
            int[] due = {2, 2, -heat, 4, 4, -heat, 1 - heat, 1 - heat};
            for (int i = 0; i < 8; i++) {
                String call = "says(" + heat + ", " + i + ")";
                Check.granted(x, call, x.says(heat, (i & 4) != 0, (i & 2) != 0, (i & 1) != 0), due[i]);
            }
            Check.granted(x, "rests(" + heat + ")", x.rests(heat), 1);
            Check.granted(x, "rest(" + heat + ")", x.rest(heat), 11);
        }
        for (int heat : new int[] {Integer.MIN_VALUE, -9, -1, 10, 11, Integer.MAX_VALUE}) {
            for (int i = 0; i < 8; i++) {
                Check.due("says(" + heat + ")", x.says(heat, (i & 4) != 0, (i & 2) != 0, (i & 1) != 0), -100);
                Check.due("trouble()", x.trouble(), 2);
            }
            Check.refused(x, "rests(" + heat + ")", x.rests(heat), 2);
            Check.refused(x, "rest(" + heat + ")", x.rest(heat), 2);
        }
    }

    private static long gcd(long a, long b) {
        return b == 0 ? a : gcd(b, a % b);
    }

    private static void lasts(ThirdWitness x, String of, int n, long upper, long lower) {
        long by = gcd(upper, lower);
        Check.granted(x, "lasts(0, " + n + ", false) of " + of, x.lasts(0, n, false), upper / by);
        Check.granted(x, "lasts(0, " + n + ", true) of " + of, x.lasts(0, n, true), lower / by);
    }

    private static long power(long base, int n) {
        return n == 0 ? 1 : base * power(base, n - 1);
    }

    /** One boy is one too many: no boy in n minutes; each chance from 0 to 100 in a hundred. */
    private static void lastsOfEachChance() {
        for (int boys = 0; boys <= 100; boys++) {
            ThirdWitness one = town(boys, FOUR_EYES, "from 0 needs 99");
            ThirdWitness two = town(boys, THREE_EYES, "from 0 needs 99");
            ThirdWitness three = town(boys, NOBODY, "from 0 needs 99");
            for (int n = 0; n <= 6; n++) {
                long none = power(100 - boys, n);
                long once = n == 0 ? 0 : n * boys * power(100 - boys, n - 1);
                long twice = n < 2 ? 0 : n * (n - 1) / 2 * (long) boys * boys * power(100 - boys, n - 2);
                lasts(one, boys + " by one boy", n, none, power(100, n));
                lasts(two, boys + " by two", n, none + once, power(100, n));
                lasts(three, boys + " by three", n, none + once + twice, power(100, n));
            }
            for (int n : new int[] {-1, 7, Integer.MAX_VALUE, Integer.MIN_VALUE}) {
                Check.refused(one, "lasts(0, " + n + ")", one.lasts(0, n, false), 2);
                Check.refused(one, "lasts(0, " + n + ")", one.lasts(0, n, true), 2);
            }
        }
        // the least there is but 0, and the most but 1
        ThirdWitness least = town(99, FOUR_EYES, "from 0 needs 99");
        Check.granted(least, "lasts(0, 6, false)", least.lasts(0, 6, false), 1);
        Check.granted(least, "lasts(0, 6, true)", least.lasts(0, 6, true), 1000000000000L);
        ThirdWitness most = town(1, FOUR_EYES, "from 0 needs 99");
        Check.granted(most, "lasts(0, 6, false)", most.lasts(0, 6, false), 941480149401L);
        Check.granted(most, "lasts(0, 6, true)", most.lasts(0, 6, true), 1000000000000L);
    }

    /** By all ways in which boys may come in n minutes, with people who come between, and an end by words or by people. */
    private static void lastsOfEachWay() {
        String[] people = {NOBODY, TWO_EYES, THREE_EYES, FOUR_EYES, FIVE_EYES, SIX_EYES};
        int[] eyes = {0, 2, 3, 4, 5, 6};
        for (int boys : new int[] {0, 1, 30, 50, 99, 100}) {
            for (int i = 0; i < people.length; i++) {
                for (int needs : new int[] {1, 3, 4, 9, 18, 19, 99}) {
                    for (int coming : new int[] {0, 1, 3, 5, 6}) {
                        String come = coming == 0 ? "" : "person z plain at b wit 0;goes z a at " + (10 + coming) + ";";
                        ThirdWitness x = town(boys, people[i] + come, "from 10 needs " + needs);
                        for (int n = 0; n <= 6; n++) {
                            int minutes = Math.min(n, (needs + 2) / 3);
                            long good = goodWays(boys, eyes[i], coming, minutes);
                            lasts(x, boys + " " + people[i] + come + needs, n, good, power(100, minutes));
                        }
                    }
                }
            }
        }
    }

    private static long goodWays(int boys, int eyes, int coming, int minutes) {
        long good = 0;
        for (int way = 0; way < 1 << minutes; way++) {
            long weight = 1;
            int now = eyes;
            boolean stopped = false;
            for (int m = 0; m < minutes; m++) {
                boolean comes = (way >> m & 1) != 0;
                weight *= comes ? boys : 100 - boys;
                now += (comes ? 2 : 0) + (coming > 0 && m == coming ? 2 : 0);
                stopped |= now >= 6;
            }
            good += stopped ? 0 : weight;
        }
        return good;
    }

    /** There are no minutes behind the 59th. */
    private static void lastsAtTheEnd() {
        for (int from = 53; from <= 59; from++) {
            ThirdWitness x = town(20, FOUR_EYES, "from " + from + " needs 99");
            for (int n = 0; n <= 6; n++) {
                int minutes = Math.min(n, 60 - from);
                lasts(x, "from " + from, n, power(4, minutes), power(5, minutes));
            }
        }
    }

    /** Boys at all minutes: with e eyes there it is stopped when they make six. */
    private static void boysByEyes() {
        String[] people = {NOBODY, TWO_EYES, THREE_EYES, FOUR_EYES, FIVE_EYES, SIX_EYES};
        int[] minutes = {2, 1, 1, 0, 0, 0};
        for (int i = 0; i < people.length; i++) {
            ThirdWitness x = town(100, people[i], "from 57 needs 99");
            Check.granted(x, "endsBy(0, 0)", x.endsBy(0, 0), 0);
            Check.granted(x, "endsByAt(0, 0)", x.endsByAt(0, 0), 57 + minutes[i]);
            Check.granted(x, "ends(0) without boys", x.ends(0), i == 5 ? 0 : -2);
            Check.granted(x, "wins(0, 0, 30)", x.wins(0, 0, 30), 0);
            ThirdWitness words = town(100, people[i], "from 57 needs 3");
            Check.granted(words, "endsBy(0, 0): stopped, or won by its words ahead of it", words.endsBy(0, 0), i < 3 ? 1 : 0);
            Check.granted(words, "wins(0, 0, 30)", words.wins(0, 0, 30), i < 3 ? 30 : 0);
            ThirdWitness none = town(0, people[i], "from 57 needs 99");
            Check.granted(none, "endsBy(0, 0) of no boys", none.endsBy(0, 0), i == 5 ? 0 : -2);
            Check.granted(none, "endsByAt(0, 0) of no boys", none.endsByAt(0, 0), i == 5 ? 57 : -2);
        }
        ThirdWitness late = town(100, NOBODY, "from 58 needs 99");
        Check.granted(late, "endsBy(0, 0): two boys until the 59th", late.endsBy(0, 0), -2);
        Check.granted(late, "endsByAt(0, 0)", late.endsByAt(0, 0), -2);
    }

    /** What a SEED becomes. */
    private static int next(int seed) {
        return (int) ((75L * seed + 74) % 65537);
    }

    /** One way through a quarrel with FOUR_EYES that gains 3 a minute: how it ends, at which minute, the seed behind it. */
    private static int[] way(int seed, int boys, int eyes, int from, int needs) {
        int now = seed;
        int sum = eyes;
        for (int minute = from; minute <= 59; minute++) {
            now = next(now);
            sum += now % 100 < boys ? 2 : 0;
            if (sum >= 6) {
                return new int[] {0, minute, now};
            }
            if (3 * (minute - from + 1) >= needs) {
                return new int[] {1, minute, now};
            }
        }
        return new int[] {-2, -2, now};
    }

    /** Becoming, a seed goes round behind 65,536: 872 is the last one that doesn't, 873 the first one that does. */
    private static void seedsThatWrap() {
        Check.due("next(872)", next(872), 65474);
        Check.due("next(873)", next(873), 12);
        // the draw of 872 is 74 of a hundred, of 873 12, of 65,535 61 and of 65,536 36
        int[][] due = {{872, 74}, {873, 12}, {65535, 61}, {65536, 36}, {0, 74}, {1, 49}, {2, 24}};
        for (int[] d : due) {
            Check.due("draw of " + d[0], next(d[0]) % 100, d[1]);
            for (int boys : new int[] {d[1] - 1, d[1], d[1] + 1}) {
                ThirdWitness x = town(boys, FOUR_EYES, "from 59 needs 1");
                Check.granted(x, "endsBy(0, " + d[0] + ") of " + boys, x.endsBy(0, d[0]), boys > d[1] ? 0 : 1);
                Check.granted(x, "endsByAt(0, " + d[0] + ") of " + boys, x.endsByAt(0, d[0]), 59);
                Check.granted(x, "wins(0, " + d[0] + ", 1) of " + boys, x.wins(0, d[0], 1), boys > d[1] ? 0 : 1);
            }
        }
        ThirdWitness x = town(50, FOUR_EYES, "from 0 needs 9");
        for (int seed : new int[] {-1, 65537, 65538, Integer.MAX_VALUE, Integer.MIN_VALUE}) {
            Check.refused(x, "endsBy(0, " + seed + ")", x.endsBy(0, seed), 2);
            Check.refused(x, "endsByAt(0, " + seed + ")", x.endsByAt(0, seed), 2);
            Check.refused(x, "wins(0, " + seed + ", 1)", x.wins(0, seed, 1), 2);
        }
    }

    private static void everySeed() {
        ThirdWitness x = null;
        for (int seed = 0; seed <= 65536; seed++) {
            if (seed % 200 == 0) {
                x = town(30, THREE_EYES, "from 3 needs 15");
            }
            int[] due = way(seed, 30, 3, 3, 15);
            Check.due("endsBy(0, " + seed + ")", x.endsBy(0, seed), due[0]);
            Check.due("endsByAt(0, " + seed + ")", x.endsByAt(0, seed), due[1]);
        }
    }

    /** Draws below boys alone: 0 in a hundred never, 100 always, each one between by its own. */
    private static void drawsAgainstBoys() {
        for (int boys = 0; boys <= 100; boys++) {
            ThirdWitness x = town(boys, FOUR_EYES, "from 50 needs 99");
            for (int seed : new int[] {0, 1, 74, 873, 4711, 65535, 65536}) {
                int[] due = way(seed, boys, 4, 50, 99);
                Check.granted(x, "endsBy(0, " + seed + ") of " + boys, x.endsBy(0, seed), due[0]);
                Check.granted(x, "endsByAt(0, " + seed + ") of " + boys, x.endsByAt(0, seed), due[1]);
            }
        }
    }

    private static void winsOneBehindTheOther() {
        String[] people = {NOBODY, THREE_EYES, FOUR_EYES};
        int[] eyes = {0, 3, 4};
        List<int[]> quarrels = new ArrayList<>();
        quarrels.add(new int[] {0, 1});
        quarrels.add(new int[] {7, 6});
        quarrels.add(new int[] {58, 6});
        quarrels.add(new int[] {58, 7});
        for (int boys : new int[] {0, 1, 25, 50, 99, 100}) {
            for (int i = 0; i < people.length; i++) {
                for (int[] quarrel : quarrels) {
                    wins(boys, people[i], eyes[i], quarrel[0], quarrel[1]);
                }
            }
        }
        ThirdWitness x = town(50, FOUR_EYES, "from 0 needs 9");
        for (int n : new int[] {-1, 31, Integer.MAX_VALUE, Integer.MIN_VALUE}) {
            Check.refused(x, "wins(0, 0, " + n + ")", x.wins(0, 0, n), 2);
            Check.refused(x, "wins(1, 0, " + n + ")", x.wins(1, 0, n), 1);
            Check.refused(x, "wins(-1, 65537, " + n + ")", x.wins(-1, 65537, n), 1);
        }
    }

    private static void wins(int boys, String people, int eyes, int from, int needs) {
        for (int start : new int[] {0, 1, 872, 873, 65536}) {
            ThirdWitness x = town(boys, people, "from " + from + " needs " + needs);
            int seed = start;
            int won = 0;
            for (int n = 0; n <= 30; n++) {
                String call = "wins(0, " + start + ", " + n + ") of " + boys + " " + people + from + " " + needs;
                Check.granted(x, call, x.wins(0, start, n), won);
                int[] way = way(seed, boys, eyes, from, needs);
                seed = way[2];
                won += way[0] == 1 ? 1 : 0;
            }
        }
    }
}
