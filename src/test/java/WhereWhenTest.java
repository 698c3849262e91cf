/** Promises 22 to 27: places and minutes at which a quarrel would be won, sights bricked up for it. */
public final class WhereWhenTest {
    /** x beats y by 3 a minute; u, v, w stay at a until they leave, one behind the other, for d. */
    private static final String TEXT = "town boys 50;place a;place b;place c;place d;sees a b;sees b c;"
        + "person x plain at d wit 4;person y plain at d wit 1;"
        + "person u plain at a wit 0;person v plain at a wit 0;person w plain at a wit 0;"
        + "goes u d at 20;goes v c at 30;goes v d at 31;goes w d at 40;"
        + "quarrel q x y at a from 10 needs 9;quarrel r y x at b from 57 needs 9;quarrel s y x at b from 58 needs 9;"
        + "hire u for 1";

    private WhereWhenTest() {
    }

    public static void main(String[] args) {
        promise22EndsIf();
        promise23Cellars();
        promise24Hour();
        promise25Longest();
        promise26Moor();
        promise27Bricks();
        promise27LeastBits();
        promise27OpenOnes();
        refusals();
        Check.close();
    }

    private static void promise22EndsIf() {
        ThirdWitness x = Check.town(TEXT);
        int[][] due = {
            {0, 0, 0, 0}, {0, 0, 19, 0}, {0, 0, 20, 1}, {0, 0, 57, 1}, {0, 0, 58, -2}, {0, 0, 59, -2},
            {0, 1, 19, 0}, {0, 1, 20, 1}, {0, 2, 0, 1}, {0, 3, 38, 0}, {0, 3, 40, 0}, {0, 3, 31, 1},
            {1, 2, 0, 2}, {1, 1, 0, 0}, {1, 1, 57, 2}, {1, 1, 58, -2},
        };
        for (int[] d : due) {
            Check.granted(x, "endsIf(" + d[0] + ", " + d[1] + ", " + d[2] + ")", x.endsIf(d[0], d[1], d[2]), d[3]);
        }
        Check.granted(x, "quarrel(0, 2) stays", x.quarrel(0, 2), 0);
        Check.granted(x, "ends(0) stays", x.ends(0), 0);
        Check.refused(x, "endsIf(3, 0, 0)", x.endsIf(3, 0, 0), 1);
        Check.refused(x, "endsIf(0, 4, 60)", x.endsIf(0, 4, 60), 1);
        Check.refused(x, "endsIf(0, -1, 0)", x.endsIf(0, -1, 0), 1);
        Check.refused(x, "endsIf(-1, 0, 60)", x.endsIf(-1, 0, 60), 1);
        Check.refused(x, "endsIf(0, 0, 60)", x.endsIf(0, 0, 60), 2);
        Check.refused(x, "endsIf(0, 0, -1)", x.endsIf(0, 0, -1), 2);
    }

    private static void promise23Cellars() {
        ThirdWitness x = Check.town(TEXT);
        Check.granted(x, "cellars(0)", x.cellars(0), 12);
        Check.granted(x, "cellars(1)", x.cellars(1), 7);
        Check.granted(x, "cellars(2)", x.cellars(2), 0);
        Check.due("hire(2, 3)", x.hire(2, 3), 1);
        Check.granted(x, "cellars(0)", x.cellars(0), 15);
    }

    private static void promise24Hour() {
        ThirdWitness x = Check.town(TEXT);
        Check.granted(x, "hour(0)", x.hour(0), 20);
        Check.granted(x, "hour(1)", x.hour(1), 20);
        Check.due("hire(2, 0)", x.hire(2, 0), 1);
        Check.granted(x, "hour(0)", x.hour(0), 30);
        ThirdWitness at = Check.town("town boys 0;place a;person x plain at a wit 1;person y plain at a wit 0;"
            + "quarrel q x y at a from 30 needs 60;quarrel r x y at a from 0 needs 61");
        Check.granted(at, "hour(0)", at.hour(0), 0);
        Check.granted(at, "hour(1)", at.hour(1), -2);
        ThirdWitness last = Check.town("town boys 0;place a;person x plain at a wit 1;person y plain at a wit 0;"
            + "person u plain at a wit 0;person v plain at a wit 0;person w plain at a wit 0;place b;"
            + "goes w b at 59;quarrel q x y at a from 0 needs 1");
        Check.granted(last, "hour(0)", last.hour(0), 59);
    }

    private static void promise25Longest() {
        // q at a, b, c, d from 10 on: stopped at 10, at 10, won at 12, won at 12
        ThirdWitness x = Check.town(TEXT);
        Check.granted(x, "longest(0), the first such", x.longest(0), 2);
        // s from 58 on: open at a, b, c; at d it is stopped
        Check.granted(x, "longest(2)", x.longest(2), 0);
        ThirdWitness y = Check.town("town boys 0;place a;place b;place c;place d;person x plain at a wit 1;"
            + "person y plain at a wit 0;person u plain at a wit 0;person v plain at a wit 0;person w plain at a wit 0;"
            + "goes u b at 59;goes v b at 59;goes w b at 59;quarrel q x y at a from 58 needs 2;"
            + "quarrel r x y at a from 58 needs 3");
        // stopped at 58, stopped at 59, won at 59
        Check.granted(y, "longest(0)", y.longest(0), 1);
        // stopped at 58, stopped at 59, open
        Check.granted(y, "longest(1): open ones latest of all", y.longest(1), 2);
    }

    private static void promise26Moor() {
        ThirdWitness x = Check.town(TEXT);
        Check.granted(x, "moor(0)", x.moor(0), 2);
        ThirdWitness y = Check.town("town boys 0;place a;place b;place c;person x plain at a wit 1;"
            + "person y plain at a wit 0;person u plain at a wit 0;person v plain at a wit 0;person w plain at a wit 0;"
            + "sees a b;sees a c;goes u b at 20;goes v b at 21;goes w b at 22;"
            + "quarrel q x y at a from 0 needs 30;quarrel r x y at a from 0 needs 20;quarrel s x y at c from 0 needs 60;"
            + "hire u for 0");
        // at a the three are until 20; b they see, then are there; c they see from a, until 20
        Check.granted(y, "moor(0)", y.moor(0), 200);
        Check.granted(y, "moor(1)", y.moor(1), 200);
        Check.granted(y, "moor(2)", y.moor(2), -2);
        Check.yes("brick(1)", y.brick(1));
        Check.granted(y, "moor(0)", y.moor(0), 2);
        Check.yes("brick(0)", y.brick(0));
        // at b the first one comes at 20, the third one at 22: 20 minutes from 0 on are enough for 20
        Check.granted(y, "moor(1), the first such", y.moor(1), 1);
        Check.granted(y, "moor(2)", y.moor(2), 2);
    }

    private static void promise27Bricks() {
        ThirdWitness x = Check.town("town boys 0;place a;place b;place c;place d;sees b a;sees c a;sees d a;sees b c;"
            + "person x plain at d wit 4;person y plain at d wit 1;"
            + "person u plain at b wit 0;person v plain at c wit 0;person w plain at d wit 0;person t babe at a wit 0;"
            + "quarrel q x y at a from 0 needs 9;quarrel r x y at d from 0 needs 9;quarrel s x y at a from 58 needs 9");
        // u, v, w, t see it by 7 eyes: any of the three sights makes 5
        Check.granted(x, "bricks(0)", x.bricks(0), 1);
        Check.granted(x, "bricks(1): won anyway", x.bricks(1), 0);
        Check.granted(x, "bricks(2): it would be open", x.bricks(2), -2);
        Check.granted(x, "sight(0, 2) stays open", x.sight(0, 2), 0);
        Check.yes("brick(1)", x.brick(1));
        Check.granted(x, "bricks(0): won now", x.bricks(0), 0);
        ThirdWitness y = Check.town("town boys 0;place a;place b;person x plain at a wit 1;person y plain at a wit 0;"
            + "person u plain at a wit 0;person v plain at a wit 0;person w plain at a wit 0;sees b a;"
            + "quarrel q x y at a from 0 needs 1");
        Check.granted(y, "bricks(0) of those who are there", y.bricks(0), -2);
    }

    private static void promise27LeastBits() {
        // b, c and d see into a: two at b, one at c, one at d
        ThirdWitness x = Check.town("town boys 0;place a;place b;place c;place d;sees d a;sees c a;sees b a;sees a b;"
            + "person x plain at d wit 4;person y plain at d wit 1;"
            + "person u plain at b wit 0;person v plain at b wit 0;person w plain at c wit 0;person t plain at d wit 0;"
            + "quarrel q x y at a from 0 needs 9");
        // eyes 8: w or t away leaves 6, u and v 4: one sight, of bits 4, is fewer than two of bits 3
        Check.granted(x, "bricks(0), the fewest", x.bricks(0), 4);
        ThirdWitness y = Check.town("town boys 0;place a;place b;place c;place d;sees d a;sees c a;sees b a;sees a b;"
            + "person x plain at d wit 4;person y plain at d wit 1;"
            + "person u plain at b wit 0;person v plain at c wit 0;person w plain at a wit 0;person t plain at d wit 0;"
            + "quarrel q x y at a from 0 needs 9");
        Check.granted(y, "bricks(0), of like ones the least bits", y.bricks(0), 3);
    }

    private static void promise27OpenOnes() {
        ThirdWitness y = Check.town("town boys 0;place a;place b;place c;place d;sees d a;sees c a;sees b a;sees a b;"
            + "person x plain at d wit 4;person y plain at d wit 1;"
            + "person u plain at b wit 0;person v plain at c wit 0;person w plain at a wit 0;person t plain at d wit 0;"
            + "quarrel q x y at a from 0 needs 9;hire w for 2");
        Check.yes("brick(0)", y.brick(0));
        Check.granted(y, "bricks(0) of open ones", y.bricks(0), 2);
        Check.due("hire(4, 3)", y.hire(4, 3), 2);
        Check.granted(y, "bricks(0) with one less there", y.bricks(0), 0);
        Check.yes("open(0)", y.open(0));
        Check.granted(y, "bricks(0): w sees it from d now", y.bricks(0), 1);
        Check.granted(y, "size(9): nothing was done", y.size(9), 3);
    }

    private static void refusals() {
        ThirdWitness told = Check.town(TEXT);
        for (int i = 0; i < 5; i++) {
            ThirdWitness x = i == 0 ? new ThirdWitness() : told;
            int q = new int[] {0, -1, 3, Integer.MAX_VALUE, Integer.MIN_VALUE}[i];
            Check.refused(x, "endsIf", x.endsIf(q, 0, 0), 1);
            Check.refused(x, "cellars", x.cellars(q), 1);
            Check.refused(x, "hour", x.hour(q), 1);
            Check.refused(x, "longest", x.longest(q), 1);
            Check.refused(x, "moor", x.moor(q), 1);
            Check.refused(x, "bricks", x.bricks(q), 1);
        }
    }
}
