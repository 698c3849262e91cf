/**
 * Promises 21, 27 to 33, 38, 44 and 56 of quarrels that are neither the first one nor at the first place nor from the first
 * minute on: each one goes by its own two, at its own place, from its own minute on.
 */
public final class EachQuarrelTest {
    /**
     * From c and a one sees into b. The first quarrel (x, y, at c from 30 on) is won at 31, as t and u see it, who is there
     * from 20 on; the second one (w, x, at b from 10 on) all others see: it is stopped; the third one (y, v, at a from 50
     * on), of two of like wit, nobody sees: it is open.
     */
    private static final String TOWN = "town boys 0;place a;place b;place c;sees c b;sees a b;"
        + "person x plain at c wit 2;person y plain at c wit 0;person u plain at b wit 0;person v plain at a wit 0;"
        + "person w plain at b wit 5;person t plain at c wit 1;goes u c at 20;"
        + "quarrel q x y at c from 30 needs 4;quarrel r w x at b from 10 needs 6;quarrel s y v at a from 50 needs 9;"
        + "hire x for 1;hire u for 3;hire v for 2;hire w for 5";

    private EachQuarrelTest() {
    }

    public static void main(String[] args) {
        endsOfEach();
        bricks();
        stoppers();
        stoppedIf();
        bestHireKeepsHiredOnes();
        nurse();
        fits();
        lasts();
        ledWithBoys();
        Check.close();
    }

    private static void endsOfEach() {
        ThirdWitness x = Check.town(TOWN);
        int[] how = {1, 0, -2};
        int[] minutes = {31, 10, -2};
        int[] leads = {1004, 1000, 1000};
        int[] seen = {36, 46, 0};
        for (int q = 0; q < 3; q++) {
            Check.granted(x, "ends(" + q + ")", x.ends(q), how[q]);
            Check.granted(x, "endsAt(" + q + ")", x.endsAt(q), minutes[q]);
            Check.granted(x, "lead(" + q + ")", x.lead(q), leads[q]);
            Check.granted(x, "seen(" + q + ")", x.seen(q), seen[q]);
        }
    }

    private static void bricks() {
        ThirdWitness x = Check.town(TOWN);
        Check.granted(x, "bricks(0)", x.bricks(0), 0);
        // without those at c there are u and v; without those at a there are y, u, t still
        Check.granted(x, "bricks(1)", x.bricks(1), 1);
        Check.granted(x, "bricks(2), open anyway", x.bricks(2), -2);
        Check.yes("brick(1)", x.brick(1));
        Check.granted(x, "bricks(1) with the other one bricked up", x.bricks(1), 1);
        Check.yes("brick(0)", x.brick(0));
        Check.granted(x, "bricks(1) with both bricked up", x.bricks(1), 0);
    }

    private static void stoppers() {
        ThirdWitness x = Check.town(TOWN);
        // t and u see it: one of v and w more is enough, v is cheaper
        Check.granted(x, "stoppers(0)", x.stoppers(0), 8);
        Check.granted(x, "price(0)", x.price(0), 2);
        Check.granted(x, "stoppers(1), stopped anyway", x.stoppers(1), 0);
        // not v, who is one of the two; x is none of these two
        Check.granted(x, "stoppers(2)", x.stoppers(2), 21);
        Check.granted(x, "price(2)", x.price(2), 9);
        Check.yes("brick(0)", x.brick(0));
        // u and v see it still; w and x are its two
        Check.granted(x, "stoppers(1)", x.stoppers(1), -2);
        Check.granted(x, "price(1)", x.price(1), -2);
    }

    private static void stoppedIf() {
        ThirdWitness x = Check.town(TOWN);
        // u comes to c ahead of minute 30, though not ahead of the first two minutes
        Check.granted(x, "stoppedIf(4, 2)", x.stoppedIf(4, 2), 3);
        Check.granted(x, "stoppedIf(3, 2)", x.stoppedIf(3, 2), 3);
        Check.granted(x, "stoppedIf(2, 0)", x.stoppedIf(2, 0), 2);
        Check.granted(x, "bestHire()", x.bestHire(), 32);
    }

    private static void bestHireKeepsHiredOnes() {
        ThirdWitness x = Check.town(TOWN);
        Check.granted(x, "hire(0, 0)", x.hire(0, 0), 1);
        Check.granted(x, "hire(2, 0)", x.hire(2, 0), 3);
        // x and u at a and w with them stop the third one
        Check.granted(x, "bestHire()", x.bestHire(), 40);
        Check.granted(x, "stoppedIf(4, 0)", x.stoppedIf(4, 0), 6);
    }

    private static void nurse() {
        ThirdWitness x = Check.town(TOWN.replace("t plain", "t babe"));
        Check.granted(x, "nurse()", x.nurse(), -2);
        Check.granted(x, "hire(4, 2)", x.hire(4, 2), 5);
        // t, u and w have five eyes at 30
        Check.granted(x, "nurse() with w at c", x.nurse(), 5);
    }

    private static void fits() {
        ThirdWitness x = Check.town(TOWN + ";unsure x 4;unsure w 0;ended r at 10;ended q at 31");
        // r is stopped whatever w's wit is; x by 4 a minute would have won at 30
        Check.granted(x, "fits()", x.fits(), 2);
        Check.granted(x, "fitAt(0)", x.fitAt(0), 0);
        Check.granted(x, "fitAt(1)", x.fitAt(1), 2);
        Check.granted(x, "judge()", x.judge(), -2);
        ThirdWitness y = Check.town(TOWN + ";ended r at 11;ended q at 31");
        Check.granted(y, "fits(), r told otherwise", y.fits(), 0);
        Check.granted(y, "judge(), r told otherwise", y.judge(), 1);
    }

    private static void lasts() {
        ThirdWitness x = Check.town(TOWN);
        int[] uppers = {1, 0, 1};
        for (int q = 0; q < 3; q++) {
            Check.granted(x, "lasts(" + q + ", 6, false)", x.lasts(q, 6, false), uppers[q]);
            Check.granted(x, "lasts(" + q + ", 1, false)", x.lasts(q, 1, false), uppers[q]);
            Check.granted(x, "lasts(" + q + ", 6, true)", x.lasts(q, 6, true), 1);
        }
    }

    /** A boy each minute would stop the third one at 52, but they come by chance or by draws alone. */
    private static void ledWithBoys() {
        ThirdWitness x = Check.town(TOWN.replace("boys 0", "boys 100"));
        Check.due("led(0)", x.led(0), 2);
        Check.throwsNoSuchElement("led(1)", () -> x.led(1) > 0);
        Check.granted(x, "ends(2)", x.ends(2), -2);
        Check.granted(x, "endsBy(2, 0)", x.endsBy(2, 0), 0);
        Check.granted(x, "endsByAt(2, 0)", x.endsByAt(2, 0), 52);
        Check.granted(x, "won()", x.won(), 1);
        Check.granted(x, "cellars(2)", x.cellars(2), 0);
    }
}
