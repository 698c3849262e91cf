/** Promises 32 to 38: which wits fit the quarrels that ended, and of whose wit to ask. */
public final class UnsureTest {
    private static final String TOWN = "town boys 99;place a;place b;sees b a;"
        + "person x plain at a wit 4;person y plain at a wit 1;person z plain at b wit 1;person t plain at b wit 0;"
        + "person s plain at b wit 0;";

    private UnsureTest() {
    }

    public static void main(String[] args) {
        allFit();
        oneFits();
        someFit();
        noneFits();
        nobodyUnsure();
        stoppedOnes();
        openOnesDoNotFit();
        whomToAsk();
        nowDoesNotMatter();
        judge();
        refusals();
        Check.close();
    }

    /** Due: sets that fit, could, surely, ask, askLeaves, judge. */
    private static void fits(String text, int[] sets, int... due) {
        look(Check.town(text), text, sets, due);
    }

    private static void look(ThirdWitness x, String text, int[] sets, int... due) {
        Check.granted(x, "fits() of " + text, x.fits(), sets.length);
        for (int i = 0; i < sets.length; i++) {
            Check.granted(x, "fitAt(" + i + ") of " + text, x.fitAt(i), sets[i]);
        }
        Check.refused(x, "fitAt(-1) of " + text, x.fitAt(-1), 1);
        Check.refused(x, "fitAt(" + sets.length + ") of " + text, x.fitAt(sets.length), 1);
        Check.granted(x, "could() of " + text, x.could(), due[0]);
        Check.granted(x, "surely() of " + text, x.surely(), due[1]);
        Check.granted(x, "ask() of " + text, x.ask(), due[2]);
        Check.granted(x, "askLeaves() of " + text, x.askLeaves(), due[3]);
        Check.granted(x, "judge() of " + text, x.judge(), due[4]);
    }

    private static void allFit() {
        fits(TOWN + "unsure x 9;unsure y 8", new int[] {0, 1, 2, 3}, 3, 0, 0, 2, -2);
        fits(TOWN + "unsure s 9;unsure t 8;unsure z 3;unsure y 4",
            new int[] {0, 1, 2, 3, 4, 5, 6, 7, 8, 9, 10, 11, 12, 13, 14, 15}, 15, 0, 0, 8, -2);
        // a quarrel that isn't told to have ended fits anyway
        fits(TOWN + "quarrel q x y at a from 0 needs 9;unsure x 9", new int[] {0, 1}, 1, 0, 0, 1, -2);
    }

    private static void oneFits() {
        // nobody but the two at a; z, t, s see it from b, which stops it
        String town = TOWN.replace("sees b a;", "");
        fits(town + "quarrel q x y at a from 0 needs 9;unsure x 9;ended q at 1", new int[] {1}, 1, 1, 0, 1, 0);
        fits(town + "quarrel q x y at a from 0 needs 9;unsure x 9;ended q at 2", new int[] {0}, 0, 0, 0, 1, -2);
        // by the other one's wit it is the other one who has won: that is an end, too
        fits(town + "quarrel q x y at a from 0 needs 9;unsure x 0;ended q at 8", new int[] {1}, 1, 1, 0, 1, 0);
        // both wits alike: both sets fit
        fits(town + "quarrel q x y at a from 0 needs 9;unsure x 4;ended q at 2", new int[] {0, 1}, 1, 0, 0, 1, -2);
    }

    private static void someFit() {
        String town = TOWN.replace("sees b a;", "");
        // 4 - 1, 7 - 1, 4 - 4, 7 - 4: needs 9 by minute 2 are 3 a minute
        fits(town + "quarrel q x y at a from 0 needs 9;unsure x 7;unsure y 4;ended q at 2", new int[] {0, 3}, 3, 0, 0, 1, -2);
        // bits are places among the unsure ones, not numbers of people
        fits(town + "quarrel q x y at a from 0 needs 9;unsure y 4;unsure t 7;unsure x 7;ended q at 2",
            new int[] {0, 2, 5, 7}, 7, 0, 0, 2, -2);
        // two quarrels: q wants x and y alike changed, r wants z changed
        fits(town + "quarrel q x y at a from 0 needs 9;quarrel r z t at b from 5 needs 9;unsure x 7;unsure y 4;unsure z 3;"
            + "ended q at 2;ended r at 7", new int[] {4, 7}, 7, 4, 0, 1, 1);
    }

    private static void noneFits() {
        String town = TOWN.replace("sees b a;", "");
        fits(town + "quarrel q x y at a from 0 needs 9;unsure x 9;ended q at 5", new int[] {}, 0, 0, -2, -2, 0);
    }

    private static void nobodyUnsure() {
        String town = TOWN.replace("sees b a;", "");
        fits(town + "quarrel q x y at a from 0 needs 9;ended q at 2", new int[] {0}, 0, 0, -2, -2, -2);
        fits(town + "quarrel q x y at a from 0 needs 9;ended q at 3", new int[] {}, 0, 0, -2, -2, 0);
        fits("town boys 0;place a", new int[] {0}, 0, 0, -2, -2, -2);
    }

    private static void stoppedOnes() {
        fits(TOWN + "quarrel q x y at a from 7 needs 9;unsure x 9;ended q at 7", new int[] {0, 1}, 1, 0, 0, 1, -2);
        // won ahead of it by the other wit: s comes when two minutes' words are said
        String late = TOWN.replace("person s plain at b", "goes t b at 1;person s plain at b")
            .replace("place b;", "place b;place c;").replace("person t plain at b", "person t plain at c")
            .replace("goes t b at 1", "goes t b at 9");
        fits(late + "quarrel q x y at a from 7 needs 16;unsure x 9;ended q at 9", new int[] {0}, 0, 0, 0, 1, -2);
        fits(late + "quarrel q x y at a from 7 needs 16;unsure x 9;ended q at 8", new int[] {1}, 1, 1, 0, 1, 0);
    }

    private static void openOnesDoNotFit() {
        String town = TOWN.replace("sees b a;", "");
        fits(town + "quarrel q x y at a from 59 needs 9;unsure y 4;ended q at 59", new int[] {}, 0, 0, -2, -2, 0);
        fits(town + "quarrel q x y at a from 59 needs 3;unsure y 4;ended q at 59", new int[] {0}, 0, 0, 0, 1, -2);
    }

    private static void whomToAsk() {
        String town = TOWN.replace("sees b a;", "");
        // x and y: 4 - 1 is 3, 9 - 1 is 8, 4 - 2 is 2, 9 - 2 is 7; needs 6 by the second minute: 3 alone;
        // of z, t nobody knows: those halve the sets, y and x don't
        fits(town + "quarrel q x y at a from 0 needs 6;unsure x 9;unsure z 9;unsure y 2;ended q at 1",
            new int[] {0, 2}, 2, 0, 1, 1, -2);
        // needs 7: by 8 and 7 at once
        fits(town + "quarrel q x y at a from 0 needs 7;unsure x 9;unsure y 2;ended q at 0", new int[] {1, 3}, 3, 1, 1, 1, 0);
        // needs 8: 8 a minute at minute 0; 7, 2, 3 else
        fits(town + "quarrel q x y at a from 0 needs 8;unsure y 2;unsure z 1;unsure x 9;ended q at 0",
            new int[] {4, 6}, 6, 4, 1, 1, 0);
        // 3, 4 and 3 a minute, but not 2: of three sets each leaves two at most
        fits(town + "quarrel q x y at a from 0 needs 9;unsure y 0;unsure x 3;ended q at 2",
            new int[] {0, 1, 3}, 3, 0, 0, 2, -2);
        fits(town + "quarrel q x y at a from 0 needs 8;unsure y 0;unsure x 5;ended q at 2",
            new int[] {0}, 0, 0, 0, 1, -2);
        // 3, 4, 4 and 5 by turns: needs 7 at minute 1 is 4, 4, 5
        fits(town + "quarrel q x y at a from 0 needs 7;unsure y 0;unsure x 5;ended q at 1",
            new int[] {1, 2, 3}, 3, 0, 0, 2, 0);
    }

    private static void nowDoesNotMatter() {
        String text = TOWN + "quarrel q x y at a from 0 needs 9;unsure x 9;ended q at 0;hire s for 2";
        ThirdWitness x = Check.town(text);
        look(x, text, new int[] {0, 1}, 1, 0, 0, 1, -2);
        Check.yes("brick(0)", x.brick(0));
        Check.due("hire(4, 1)", x.hire(4, 1), 2);
        Check.due("endsAt(0) now", x.endsAt(0), 2);
        look(x, text, new int[] {0, 1}, 1, 0, 0, 1, -2);
        Check.due("endsAt(0) now, as well as ahead", x.endsAt(0), 2);
        Check.due("person(0, 1) stays", x.person(0, 1), 4);
    }

    private static void judge() {
        String town = TOWN.replace("sees b a;", "");
        String three = town + "quarrel q x y at a from 0 needs 9;quarrel r x y at a from 3 needs 9;quarrel s x y at a from 4 needs 9";
        // s is a person there, so the quarrel has another name
        three = three.replace("quarrel s", "quarrel p");
        ThirdWitness x = Check.town(three + ";ended p at 5;ended r at 5;ended q at 2");
        Check.granted(x, "judge()", x.judge(), 2);
        ThirdWitness y = Check.town(three + ";ended p at 5;ended r at 6;ended q at 2");
        Check.granted(y, "judge(), the first", y.judge(), 1);
        ThirdWitness z = Check.town(three + ";ended p at 6;ended r at 5;ended q at 2");
        Check.granted(z, "judge() of none", z.judge(), -2);
    }

    private static void refusals() {
        ThirdWitness x = new ThirdWitness();
        Check.refused(x, "fits", x.fits(), 1);
        Check.refused(x, "fitAt", x.fitAt(0), 1);
        Check.refused(x, "could", x.could(), 1);
        Check.refused(x, "surely", x.surely(), 1);
        Check.refused(x, "ask", x.ask(), 1);
        Check.refused(x, "askLeaves", x.askLeaves(), 1);
        Check.refused(x, "judge", x.judge(), 1);
        ThirdWitness y = Check.town(TOWN + "unsure x 9");
        Check.refused(y, "fitAt", y.fitAt(Integer.MAX_VALUE), 1);
        Check.refused(y, "fitAt", y.fitAt(Integer.MIN_VALUE), 1);
    }
}
