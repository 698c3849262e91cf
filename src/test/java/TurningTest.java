/** Promises 39 to 43: whose seeing turns it, the fewest of three, and two who speak or wait. */
public final class TurningTest {
    private static final String TOWN = "town boys 0;place a;place b;place c;sees b a;"
        + "person p plain at a wit 0;person q plain at b wit 0;person r deaf at a wit 0;person s babe at b wit 0;"
        + "person t blind at a wit 0;person u babe at c wit 0;goes u a at 10;hire p for 0";

    private TurningTest() {
    }

    public static void main(String[] args) {
        promise39Swings();
        promise39Refusals();
        promise40Three();
        promise41Says();
        promise42Rests();
        noTown();
        Check.close();
    }

    private static void swings(ThirdWitness x, int p, int place, int minute, long upper, long lower) {
        String call = "swings(" + p + ", " + place + ", " + minute;
        Check.granted(x, call + ", false)", x.swings(p, place, minute, false), upper);
        Check.granted(x, call + ", true)", x.swings(p, place, minute, true), lower);
    }

    private static void promise39Swings() {
        ThirdWitness x = Check.town(TOWN);
        // at a, minute 0: p 2, q 2, r 2, s 1, t 0 see it
        // p: of q, r, s, t those with 4 or 5 eyes: q r, q r s, each with t or without: 4 of 16
        swings(x, 0, 0, 0, 1, 4);
        swings(x, 1, 0, 0, 1, 4);
        // s: of p, q, r, t none has 5 eyes
        swings(x, 3, 0, 0, 0, 1);
        swings(x, 4, 0, 0, 0, 1);
        // u doesn't see it
        swings(x, 5, 0, 0, 0, 1);
        // minute 10, u 1 too: p: of q 2, r 2, s 1, u 1, t: q r and any but both with 4 or 5: q r, q r s, q r u; and
        // q s u, r s u have 4: 5 of 16
        swings(x, 0, 0, 10, 5, 16);
        // u: of p, q, r 2 each, s 1: 5 eyes are two of three and s: 3 of 16
        swings(x, 5, 0, 10, 3, 16);
        swings(x, 3, 0, 10, 3, 16);
        // at b only q and s are
        swings(x, 0, 1, 0, 0, 1);
        swings(x, 1, 1, 0, 0, 1);
        // nobody else sees c
        swings(x, 5, 2, 0, 0, 1);
        Check.yes("brick(0)", x.brick(0));
        swings(x, 0, 0, 10, 0, 1);
        Check.yes("open(0)", x.open(0));
        Check.due("hire(0, 2)", x.hire(0, 2), 0);
        // without p: u: of q 2, r 2, s 1: all of them have 5: 1 of 8
        swings(x, 5, 0, 10, 1, 8);
        swings(x, 0, 0, 10, 0, 1);
        ThirdWitness six = Check.town("town boys 0;place a;person p plain at a wit 0;person q plain at a wit 0;"
            + "person r plain at a wit 0;person s plain at a wit 0;person t plain at a wit 0;person u plain at a wit 0");
        // two of five: 10 of 32
        swings(six, 5, 0, 59, 5, 16);
        ThirdWitness alone = Check.town("town boys 0;place a;person p plain at a wit 0;person q plain at a wit 0;"
            + "person r plain at a wit 0");
        swings(alone, 2, 0, 0, 1, 4);
    }

    private static void promise39Refusals() {
        ThirdWitness x = Check.town(TOWN);
        Check.refused(x, "swings(6, 0, 0)", x.swings(6, 0, 0, false), 1);
        Check.refused(x, "swings(-1, 0, 60)", x.swings(-1, 0, 60, false), 1);
        Check.refused(x, "swings(0, 3, 0)", x.swings(0, 3, 0, true), 1);
        Check.refused(x, "swings(0, -1, 60)", x.swings(0, -1, 60, true), 1);
        Check.refused(x, "swings(0, 0, 60)", x.swings(0, 0, 60, true), 2);
        Check.refused(x, "swings(0, 0, -1)", x.swings(0, 0, -1, false), 2);
    }

    private static void promise40Three() {
        ThirdWitness x = Check.town(TOWN);
        Check.granted(x, "three(0, 0)", x.three(0, 0), 7);
        Check.granted(x, "three(1, 0)", x.three(1, 0), -2);
        Check.granted(x, "three(2, 0)", x.three(2, 0), -2);
        Check.due("hire(0, 2)", x.hire(0, 2), 0);
        Check.granted(x, "three(0, 9): five eyes", x.three(0, 9), -2);
        Check.granted(x, "three(0, 10)", x.three(0, 10), 46);
        ThirdWitness y = Check.town("town boys 0;place a;person p babe at a wit 0;person q babe at a wit 0;"
            + "person r plain at a wit 0;person s plain at a wit 0;person t blind at a wit 0;person u plain at a wit 0");
        // three plain ones are fewer than the two babes and two of them, whose bits are less
        Check.granted(y, "three(0, 0), the fewest", y.three(0, 0), 44);
        ThirdWitness z = Check.town("town boys 0;place a;person p babe at a wit 0;person q babe at a wit 0;"
            + "person r plain at a wit 0;person s babe at a wit 0;person t blind at a wit 0;person u plain at a wit 0");
        Check.granted(z, "three(0, 0), of like ones the least bits", z.three(0, 0), 39);
        Check.refused(x, "three(3, 0)", x.three(3, 0), 1);
        Check.refused(x, "three(-1, 60)", x.three(-1, 60), 1);
        Check.refused(x, "three(0, 60)", x.three(0, 60), 2);
        Check.refused(x, "three(0, -1)", x.three(0, -1), 2);
    }

    private static void promise41Says() {
        ThirdWitness x = Check.town(TOWN);
        for (int heat = 0; heat <= 9; heat++) {
            String call = "says(" + heat + ", ";
            Check.granted(x, call + "both, one's)", x.says(heat, true, true, false), 1 - heat);
            Check.granted(x, call + "both, other's)", x.says(heat, true, true, true), 1 - heat);
            Check.granted(x, call + "the one, one's)", x.says(heat, true, false, false), 4);
            Check.granted(x, call + "the one, other's)", x.says(heat, true, false, true), -heat);
            Check.granted(x, call + "the other, one's)", x.says(heat, false, true, false), -heat);
            Check.granted(x, call + "the other, other's)", x.says(heat, false, true, true), 4);
            Check.granted(x, call + "neither, one's)", x.says(heat, false, false, false), 2);
            Check.granted(x, call + "neither, other's)", x.says(heat, false, false, true), 2);
        }
        for (int heat : new int[] {-1, 10, Integer.MAX_VALUE, Integer.MIN_VALUE}) {
            Check.due("says(" + heat + ")", x.says(heat, true, false, false), -100);
            Check.due("trouble()", x.trouble(), 2);
        }
    }

    /** Whatever the heat, each has more by saying it: one more than by waiting if the other one says it, else two. */
    private static void promise42Rests() {
        ThirdWitness x = Check.town(TOWN);
        for (int heat = 0; heat <= 9; heat++) {
            Check.granted(x, "rests(" + heat + ")", x.rests(heat), 1);
            Check.granted(x, "rest(" + heat + ")", x.rest(heat), 11);
        }
        for (int heat : new int[] {-1, 10, Integer.MAX_VALUE, Integer.MIN_VALUE}) {
            Check.refused(x, "rests(" + heat + ")", x.rests(heat), 2);
            Check.refused(x, "rest(" + heat + ")", x.rest(heat), 2);
        }
    }

    private static void noTown() {
        ThirdWitness x = new ThirdWitness();
        Check.refused(x, "swings", x.swings(0, 0, 60, true), 1);
        Check.refused(x, "three", x.three(0, 60), 1);
        Check.denied(x, "undo", x.undo(), 6);
        Check.due("says", x.says(10, true, true, true), -100);
        Check.due("trouble()", x.trouble(), 1);
        Check.denied(x, "undo", x.undo(), 6);
        Check.refused(x, "rests", x.rests(10), 1);
        Check.denied(x, "undo", x.undo(), 6);
        Check.refused(x, "rest", x.rest(10), 1);
    }
}
