/** Promises 44 to 47: boys by chance and by draws. */
public final class BoysTest {
    private static final String TWO = "place a;place b;person x plain at b wit 4;person y plain at b wit 1;";
    private static final String FOUR_EYES = "person u plain at a wit 0;person v deaf at a wit 0;";
    private static final String THREE_EYES = "person u plain at a wit 0;person v babe at a wit 0;";

    private BoysTest() {
    }

    public static void main(String[] args) {
        oneBoyIsEnough();
        twoBoysAreEnough();
        threeBoysAreEnough();
        sureOnes();
        fewerMinutes();
        whoComesCounts();
        lastsRefusals();
        draws();
        drawsEachMinute();
        boysTogetherWithOthers();
        wins();
        seedRefusals();
        noTown();
        Check.close();
    }

    private static ThirdWitness town(int boys, String people, String quarrel) {
        return Check.town("town boys " + boys + ";" + TWO + people + "quarrel q x y at a " + quarrel);
    }

    private static void lasts(ThirdWitness x, int n, long upper, long lower) {
        Check.granted(x, "lasts(0, " + n + ", false)", x.lasts(0, n, false), upper);
        Check.granted(x, "lasts(0, " + n + ", true)", x.lasts(0, n, true), lower);
    }

    private static void oneBoyIsEnough() {
        ThirdWitness x = town(20, FOUR_EYES, "from 7 needs 99");
        long upper = 1;
        long lower = 1;
        for (int n = 0; n <= 6; n++) {
            lasts(x, n, upper, lower);
            upper *= 4;
            lower *= 5;
        }
        // 3 of a hundred: nothing can be made less of 97 by 100
        ThirdWitness y = town(3, FOUR_EYES, "from 7 needs 99");
        lasts(y, 6, 832972004929L, 1000000000000L);
    }

    private static void twoBoysAreEnough() {
        ThirdWitness x = town(20, THREE_EYES, "from 7 needs 99");
        lasts(x, 0, 1, 1);
        lasts(x, 1, 1, 1);
        lasts(x, 2, 24, 25);
        lasts(x, 3, 112, 125);
    }

    private static void threeBoysAreEnough() {
        ThirdWitness x = town(20, "", "from 7 needs 99");
        lasts(x, 2, 1, 1);
        lasts(x, 3, 124, 125);
        lasts(x, 6, 2816, 3125);
        ThirdWitness babe = town(20, "person u babe at a wit 0;", "from 7 needs 99");
        // one and two boys make five eyes
        lasts(babe, 3, 124, 125);
        ThirdWitness plain = town(20, "person u plain at a wit 0;", "from 7 needs 99");
        lasts(plain, 3, 112, 125);
    }

    private static void sureOnes() {
        ThirdWitness all = town(100, "", "from 0 needs 99");
        lasts(all, 2, 1, 1);
        lasts(all, 3, 0, 1);
        lasts(all, 6, 0, 1);
        ThirdWitness none = town(0, FOUR_EYES, "from 0 needs 99");
        lasts(none, 6, 1, 1);
        ThirdWitness stopped = town(0, FOUR_EYES + "person w plain at a wit 0;", "from 0 needs 1");
        lasts(stopped, 0, 1, 1);
        lasts(stopped, 1, 0, 1);
    }

    private static void fewerMinutes() {
        // won at its third minute, ahead of whose words a boy may come
        ThirdWitness won = town(20, FOUR_EYES, "from 7 needs 9");
        lasts(won, 2, 16, 25);
        lasts(won, 3, 64, 125);
        lasts(won, 4, 64, 125);
        lasts(won, 6, 64, 125);
        ThirdWitness other = Check.town("town boys 20;" + TWO + FOUR_EYES + "quarrel q y x at a from 0 needs 3");
        lasts(other, 6, 4, 5);
        ThirdWitness late = town(20, FOUR_EYES, "from 58 needs 99");
        lasts(late, 1, 4, 5);
        lasts(late, 2, 16, 25);
        lasts(late, 6, 16, 25);
    }

    private static void whoComesCounts() {
        // u from minute 2 on, v from minute 4 on
        ThirdWitness x = town(50, "person u plain at b wit 0;person v plain at b wit 0;goes u a at 2;goes u b at 3;"
            + "goes v a at 4;", "from 0 needs 99");
        lasts(x, 2, 1, 1);
        // no boy, one, or two of three: two with u are six eyes
        lasts(x, 3, 1, 2);
        lasts(x, 4, 5, 16);
        // no boy at all
        lasts(x, 5, 1, 32);
        lasts(x, 6, 1, 64);
        ThirdWitness hired = Check.town("town boys 20;" + TWO + FOUR_EYES + "quarrel q x y at a from 0 needs 99;hire v for 0");
        lasts(hired, 1, 4, 5);
        Check.due("hire(3, 1)", hired.hire(3, 1), 0);
        lasts(hired, 1, 1, 1);
    }

    private static void lastsRefusals() {
        ThirdWitness x = town(20, FOUR_EYES, "from 7 needs 9");
        Check.refused(x, "lasts(1, 0)", x.lasts(1, 0, false), 1);
        Check.refused(x, "lasts(-1, 7)", x.lasts(-1, 7, true), 1);
        Check.refused(x, "lasts(0, 7)", x.lasts(0, 7, false), 2);
        Check.refused(x, "lasts(0, -1)", x.lasts(0, -1, true), 2);
    }

    private static void endsBy(ThirdWitness x, int seed, int how, int minute) {
        Check.granted(x, "endsBy(0, " + seed + ")", x.endsBy(0, seed), how);
        Check.granted(x, "endsByAt(0, " + seed + ")", x.endsByAt(0, seed), minute);
    }

    /** From seed 0 on the draws are 74, 5624, 28652, 51790, 17641, 12409, 13231, 9344. */
    private static void draws() {
        endsBy(town(25, FOUR_EYES, "from 7 needs 99"), 0, 0, 8);
        endsBy(town(24, FOUR_EYES, "from 7 needs 99"), 0, 0, 12);
        endsBy(town(75, FOUR_EYES, "from 7 needs 99"), 0, 0, 7);
        endsBy(town(74, FOUR_EYES, "from 7 needs 99"), 0, 0, 8);
        endsBy(town(25, FOUR_EYES, "from 7 needs 3"), 0, 1, 7);
        endsBy(town(25, FOUR_EYES, "from 7 needs 6"), 0, 0, 8);
        endsBy(town(24, FOUR_EYES, "from 7 needs 6"), 0, 1, 8);
        endsBy(town(24, FOUR_EYES, "from 7 needs 6"), 74, 1, 8);
        endsBy(town(25, FOUR_EYES, "from 7 needs 6"), 74, 0, 7);
        // seed 65,536 becomes itself: each draw is 36
        endsBy(town(36, FOUR_EYES, "from 7 needs 99"), 65536, 1, 39);
        endsBy(town(36, FOUR_EYES, "from 27 needs 99"), 65536, 1, 59);
        endsBy(town(36, FOUR_EYES, "from 28 needs 99"), 65536, -2, -2);
        endsBy(town(37, FOUR_EYES, "from 7 needs 99"), 65536, 0, 7);
        Check.due("ends by the other one", Check.town("town boys 0;" + TWO + "quarrel q y x at a from 0 needs 3").endsBy(0, 5), 2);
    }

    private static void drawsEachMinute() {
        endsBy(town(25, THREE_EYES, "from 7 needs 99"), 0, 0, 12);
        endsBy(town(42, THREE_EYES, "from 7 needs 99"), 0, 0, 11);
        endsBy(town(42, "", "from 7 needs 99"), 0, 0, 12);
        endsBy(town(100, "", "from 7 needs 99"), 1, 0, 9);
        endsBy(town(100, "", "from 7 needs 6"), 1, 1, 8);
        endsBy(town(100, "", "from 7 needs 7"), 1, 0, 9);
        endsBy(town(0, "", "from 7 needs 6"), 1, 1, 8);
    }

    private static void boysTogetherWithOthers() {
        // four eyes at minute 10: with the boy of minute 8
        endsBy(town(25, "person u plain at b wit 0;person v plain at b wit 0;goes u a at 10;goes v a at 10;",
            "from 7 needs 99"), 0, 0, 10);
        endsBy(town(25, FOUR_EYES + "person w plain at b wit 0;goes w a at 10;", "from 9 needs 99"), 1, 0, 10);
        ThirdWitness x = town(25, FOUR_EYES, "from 7 needs 99");
        Check.granted(x, "ends(0) without boys", x.ends(0), 1);
        Check.granted(x, "seen(0) without boys", x.seen(0), 12);
    }

    private static void wins() {
        // two minutes each: 74 24, 52 90, 41 9, 31 44: a boy below 25 stops the first and the third time
        ThirdWitness x = town(25, FOUR_EYES, "from 7 needs 6");
        int[] due = {0, 0, 1, 1, 2};
        for (int n = 0; n < due.length; n++) {
            Check.granted(x, "wins(0, 0, " + n + ")", x.wins(0, 0, n), due[n]);
        }
        // as soon as it is stopped the next one begins: 74 24, 52, 90 41, 9, 31, 44
        ThirdWitness y = town(60, FOUR_EYES, "from 7 needs 6");
        Check.granted(y, "wins(0, 0, 6)", y.wins(0, 0, 6), 0);
        ThirdWitness z = town(42, FOUR_EYES, "from 7 needs 3");
        // a minute each: 74, -, 52, 90, -, -, -, 44
        int[] one = {0, 1, 1, 2, 3, 3, 3, 3, 4};
        for (int n = 0; n < one.length; n++) {
            Check.granted(z, "wins(0, 0, " + n + ")", z.wins(0, 0, n), one[n]);
        }
        ThirdWitness all = town(36, FOUR_EYES, "from 7 needs 6");
        Check.granted(all, "wins(0, 65536, 30)", all.wins(0, 65536, 30), 30);
        ThirdWitness open = town(36, FOUR_EYES, "from 59 needs 6");
        Check.granted(open, "wins(0, 65536, 30) of open ones", open.wins(0, 65536, 30), 0);
        ThirdWitness other = Check.town("town boys 0;" + TWO + "quarrel q y x at a from 0 needs 3");
        Check.granted(other, "wins(0, 1, 7) of the other one", other.wins(0, 1, 7), 7);
    }

    private static void seedRefusals() {
        ThirdWitness x = town(25, FOUR_EYES, "from 7 needs 6");
        for (int seed : new int[] {-1, 65537, Integer.MAX_VALUE, Integer.MIN_VALUE}) {
            Check.refused(x, "endsBy(0, " + seed + ")", x.endsBy(0, seed), 2);
            Check.refused(x, "endsByAt(0, " + seed + ")", x.endsByAt(0, seed), 2);
            Check.refused(x, "wins(0, " + seed + ", 1)", x.wins(0, seed, 1), 2);
            Check.refused(x, "endsBy(1, " + seed + ")", x.endsBy(1, seed), 1);
            Check.refused(x, "endsByAt(-1, " + seed + ")", x.endsByAt(-1, seed), 1);
            Check.refused(x, "wins(1, " + seed + ", 31)", x.wins(1, seed, 31), 1);
        }
        Check.refused(x, "wins(0, 0, 31)", x.wins(0, 0, 31), 2);
        Check.refused(x, "wins(0, 0, -1)", x.wins(0, 0, -1), 2);
    }

    private static void noTown() {
        ThirdWitness x = new ThirdWitness();
        Check.refused(x, "lasts", x.lasts(0, 7, true), 1);
        Check.refused(x, "endsBy", x.endsBy(0, -1), 1);
        Check.refused(x, "endsByAt", x.endsByAt(0, -1), 1);
        Check.refused(x, "wins", x.wins(0, -1, 31), 1);
    }
}
