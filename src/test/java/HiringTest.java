/** Promises 28 to 31: whom to hire that a quarrel stops. */
public final class HiringTest {
    /** x 0 and y 1 quarrel; u 2, v 3, w 4, t 5 are elsewhere, at c. */
    private static final String TEXT = "town boys 90;place a;place b;place c;sees b a;"
        + "person x plain at a wit 4;person y plain at a wit 1;person u plain at c wit 0;person v plain at c wit 0;"
        + "person w deaf at c wit 0;person t blind at c wit 0;";
    private static final String Q = "quarrel q x y at a from 0 needs 9;";

    private HiringTest() {
    }

    public static void main(String[] args) {
        stoppers("hire u for 3;hire v for 4;hire w for 5", 28, 12);
        stoppers("hire u for 3;hire v for 4;hire w for 5;hire x for 0;hire y for 0;hire t for 0", 28, 12);
        stoppers("hire u for 3;hire v for 4", -2, -2);
        stoppers("hire t for 3", -2, -2);
        stoppers("hire u for 3;hire x for 4;hire y for 5", -2, -2);
        fewestShillings();
        leastBits();
        hiredOnes();
        stoppedAnyway();
        stoppedIf();
        bestHire();
        bestHireMoves();
        refusals();
        Check.close();
    }

    private static void stoppers(String hires, int set, int shillings) {
        ThirdWitness x = Check.town(TEXT + Q + hires);
        Check.granted(x, "stoppers(0) of " + hires, x.stoppers(0), set);
        Check.granted(x, "price(0) of " + hires, x.price(0), shillings);
        Check.granted(x, "spent() stays", x.spent(), 0);
        Check.granted(x, "person(2, 4) stays", x.person(2, 4), -2);
    }

    private static void fewestShillings() {
        // u is there anyway: two more of the three others must come
        String town = "town boys 0;place a;place c;person x plain at a wit 4;person y plain at a wit 1;"
            + "person u plain at a wit 0;person v plain at c wit 0;person w deaf at c wit 0;person t plain at c wit 0;" + Q;
        ThirdWitness x = Check.town(town + "hire v for 9;hire w for 2;hire t for 3;hire u for 1");
        Check.granted(x, "stoppers(0)", x.stoppers(0), 48);
        Check.granted(x, "price(0)", x.price(0), 5);
        ThirdWitness y = Check.town("town boys 0;place a;place c;person x plain at a wit 4;person y plain at a wit 1;"
            + "person u deaf at a wit 0;person v deaf at a wit 0;person w babe at c wit 0;person t plain at c wit 0;"
            + "goes t a at 20;" + Q + "hire w for 1;hire t for 7");
        // w makes five eyes alone; t makes six and is dearer than w, who isn't enough
        Check.granted(y, "stoppers(0)", y.stoppers(0), 32);
        Check.granted(y, "price(0)", y.price(0), 7);
        // until minute 20 it is won; sent there from the first minute on, it is stopped
        Check.granted(y, "ends(0)", y.ends(0), 1);
        Check.due("hire(5, 0)", y.hire(5, 0), 7);
        Check.granted(y, "ends(0)", y.ends(0), 0);
    }

    private static void leastBits() {
        String town = "town boys 0;place a;place c;person u plain at c wit 0;person v plain at c wit 0;"
            + "person x plain at a wit 4;person y plain at a wit 1;person w plain at a wit 0;person t plain at a wit 0;" + Q;
        ThirdWitness x = Check.town(town + "hire v for 2;hire u for 2");
        Check.granted(x, "stoppers(0), of like ones the least bits", x.stoppers(0), 1);
        // 2 and 0 shillings, or 2 alone: of bits 1 and 2, or 2
        ThirdWitness y = Check.town(town + "hire v for 2;hire u for 0");
        Check.granted(y, "stoppers(0)", y.stoppers(0), 1);
        Check.granted(y, "price(0)", y.price(0), 0);
        // two babes of 1 shilling each are as dear as one plain one of 2: least bits, not fewest people
        ThirdWitness z = Check.town("town boys 0;place a;place c;person u babe at c wit 0;person v babe at c wit 0;"
            + "person w plain at c wit 0;person x plain at a wit 4;person y plain at a wit 1;place d;"
            + "quarrel q x y at a from 0 needs 9;hire u for 1;hire v for 1;hire w for 2");
        Check.granted(z, "stoppers(0)", z.stoppers(0), -2);
        ThirdWitness more = Check.town("town boys 0;place a;place c;person u babe at c wit 0;person v babe at c wit 0;"
            + "person w plain at c wit 0;person x plain at a wit 4;person y plain at a wit 1;"
            + "person t plain at a wit 0;quarrel q x y at a from 0 needs 9;hire u for 1;hire v for 1;hire w for 2");
        Check.granted(more, "stoppers(0)", more.stoppers(0), 7);
        Check.granted(more, "price(0)", more.price(0), 4);
    }

    private static void hiredOnes() {
        ThirdWitness x = Check.town(TEXT + Q + "hire u for 3;hire v for 4;hire w for 5");
        Check.due("hire(2, 1)", x.hire(2, 1), 3);
        // u sees into a from b, and is hired no more
        Check.granted(x, "stoppers(0)", x.stoppers(0), 24);
        Check.granted(x, "price(0)", x.price(0), 9);
        Check.due("hire(2, 2)", x.hire(2, 2), 3);
        Check.granted(x, "stoppers(0): the hired one can't be sent again", x.stoppers(0), -2);
        Check.granted(x, "price(0)", x.price(0), -2);
        Check.yes("dismiss(2)", x.dismiss(2));
        Check.granted(x, "stoppers(0)", x.stoppers(0), 28);
    }

    private static void stoppedAnyway() {
        ThirdWitness x = Check.town(TEXT + "quarrel q x y at c from 0 needs 9;hire u for 3");
        Check.granted(x, "stoppers(0) of none", x.stoppers(0), 0);
        Check.granted(x, "price(0) of none", x.price(0), 0);
        ThirdWitness free = Check.town(TEXT + "quarrel q x y at c from 0 needs 9;hire u for 0;hire v for 0");
        Check.granted(free, "stoppers(0) of none, the least bits", free.stoppers(0), 0);
    }

    private static void stoppedIf() {
        String more = "quarrel q x y at a from 0 needs 9;quarrel r x t at c from 0 needs 9;"
            + "quarrel s u v at b from 0 needs 1;hire u for 3;hire w for 4;hire t for 1";
        ThirdWitness x = Check.town(TEXT + more);
        Check.granted(x, "ends(1)", x.ends(1), 0);
        // r is seen by u, v, w; s by nobody
        Check.granted(x, "stoppedIf(2, 0)", x.stoppedIf(2, 0), 0);
        Check.granted(x, "stoppedIf(2, 2)", x.stoppedIf(2, 2), 2);
        Check.granted(x, "stoppedIf(5, 1)", x.stoppedIf(5, 1), 2);
        Check.granted(x, "ends(1) stays", x.ends(1), 0);
        Check.due("hire(4, 1)", x.hire(4, 1), 4);
        Check.granted(x, "stoppedIf(4, 2) of one who is hired", x.stoppedIf(4, 2), 2);
        Check.granted(x, "stoppedIf(4, 1), where he was sent", x.stoppedIf(4, 1), 0);
        Check.granted(x, "person(4, 4) stays", x.person(4, 4), 1);
        Check.refused(x, "stoppedIf(3, 0)", x.stoppedIf(3, 0), 5);
        Check.refused(x, "stoppedIf(3, 3)", x.stoppedIf(3, 3), 1);
        Check.refused(x, "stoppedIf(6, 0)", x.stoppedIf(6, 0), 1);
        Check.refused(x, "stoppedIf(-1, 0)", x.stoppedIf(-1, 0), 1);
        Check.refused(x, "stoppedIf(2, -1)", x.stoppedIf(2, -1), 1);
    }

    private static void bestHire() {
        // at a two are there, one more stops q there; at c likewise for r
        String town = "town boys 0;place a;place b;place c;place d;sees b a;sees b c;"
            + "person x plain at a wit 4;person y plain at c wit 1;person u plain at a wit 0;person v plain at c wit 0;"
            + "person w plain at d wit 0;person t babe at d wit 0;"
            + "quarrel q x v at a from 0 needs 9;quarrel r u y at c from 0 needs 1;";
        // q: u; r: nobody else but v
        ThirdWitness x = Check.town(town + "hire w for 3");
        Check.granted(x, "bestHire() of none more", x.bestHire(), -2);
        String three = "town boys 0;place a;place b;place c;place d;sees b a;sees b c;"
            + "person x plain at d wit 4;person y plain at d wit 1;person u plain at b wit 0;person v plain at b wit 0;"
            + "person w plain at d wit 0;person t plain at d wit 0;"
            + "quarrel q x y at a from 0 needs 9;quarrel r x y at c from 0 needs 9;";
        ThirdWitness y = Check.town(three + "hire t for 3;hire w for 3");
        // u and v see both from b: one more at b stops both, at a or c one
        Check.granted(y, "bestHire(): the most, the first such", y.bestHire(), 41);
        Check.due("brick(1)", y.brick(1) ? 1 : 0, 1);
        Check.granted(y, "bestHire(): q alone can be stopped", y.bestHire(), 40);
        Check.granted(y, "size(9)", y.size(9), 1);
        Check.due("hire(4, 0)", y.hire(4, 0), 3);
        Check.granted(y, "bestHire(): none more than now", y.bestHire(), -2);
        ThirdWitness nobody = Check.town(three + "place e");
        Check.granted(nobody, "bestHire() of nobody who can be hired", nobody.bestHire(), -2);
    }

    private static void bestHireMoves() {
        // one who is hired can be sent elsewhere
        ThirdWitness x = Check.town("town boys 0;place a;place b;person x plain at b wit 4;person y plain at b wit 1;"
            + "person u plain at a wit 0;person v plain at a wit 0;person w plain at b wit 0;"
            + "quarrel q x y at a from 0 needs 9;hire w for 3;hire u for 4");
        Check.due("hire(4, 1)", x.hire(4, 1), 3);
        Check.granted(x, "bestHire()", x.bestHire(), 40);
        Check.due("hire(4, 0)", x.hire(4, 0), 3);
        Check.granted(x, "bestHire()", x.bestHire(), -2);
        Check.granted(x, "ends(0)", x.ends(0), 0);
    }

    private static void refusals() {
        ThirdWitness told = Check.town(TEXT + Q + "place d");
        ThirdWitness none = new ThirdWitness();
        Check.refused(told, "stoppers(1)", told.stoppers(1), 1);
        Check.refused(told, "stoppers(-1)", told.stoppers(-1), 1);
        Check.refused(told, "price(1)", told.price(1), 1);
        Check.refused(told, "price(-1)", told.price(-1), 1);
        Check.refused(none, "stoppers(0)", none.stoppers(0), 1);
        Check.refused(none, "price(0)", none.price(0), 1);
        Check.refused(none, "stoppedIf(0, 0)", none.stoppedIf(0, 0), 1);
        Check.refused(none, "bestHire()", none.bestHire(), 1);
    }
}
