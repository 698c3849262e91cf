/** Promises 22 to 40 at their edges: first and last ones, none and all, like ones of which the first or the least is due. */
public final class GuessEdgeTest {
    private static final String SIX = "town boys 0;place a;place b;place c;place d;place e;place f;";
    private static final String XY = "person x plain at a wit 9;person y plain at a wit 0;";
    private static final String UVW = "person u plain at a wit 0;person v plain at a wit 0;person w plain at a wit 0;";

    private GuessEdgeTest() {
    }

    public static void main(String[] args) {
        endsIf();
        cellars();
        hour();
        longest();
        moor();
        fiveBricks();
        bricksOfBits();
        stoppersOfAll();
        stoppersOfPrices();
        stoppedIf();
        bestHire();
        fitsOfSixteen();
        fitsUnlike();
        fitsAsTold();
        asks();
        judge();
        swings();
        three();
        Check.close();
    }

    /** At each place from each minute on: u, v, w are at a until 29, at b until 58, at c at 59. */
    private static void endsIf() {
        ThirdWitness x = Check.town("town boys 0;place a;place b;place c;place d;" + XY + UVW + "goes u b at 30;goes v b at 30;goes w b at 30;"
            + "goes u c at 59;goes v c at 59;goes w c at 59;quarrel q x y at a from 0 needs 18;quarrel r y x at d from 59 needs 1");
        int[] from = {0, 30, 59};
        int[] until = {29, 58, 59};
        for (int place = 0; place < 4; place++) {
            for (int minute = 0; minute < 60; minute++) {
                // two minutes are needed to win, ahead of the second one's words he must not be seen
                int due = minute == 59 ? -2 : 1;
                if (place < 3) {
                    for (int m = minute; m <= Math.min(minute + 1, 59); m++) {
                        due = m >= from[place] && m <= until[place] ? 0 : due;
                    }
                }
                Check.granted(x, "endsIf(0, " + place + ", " + minute + ")", x.endsIf(0, place, minute), due);
            }
            Check.granted(x, "endsIf(1, " + place + ", 59)", x.endsIf(1, place, 59), place == 2 ? 0 : 2);
        }
        for (int wrong : new int[] {-1, 60}) {
            Check.refused(x, "endsIf(0, 0, " + wrong + ")", x.endsIf(0, 0, wrong), 2);
            Check.refused(x, "endsIf(2, 0, " + wrong + ")", x.endsIf(2, 0, wrong), 1);
            Check.refused(x, "endsIf(0, 4, " + wrong + ")", x.endsIf(0, 4, wrong), 1);
        }
    }

    private static void cellars() {
        ThirdWitness all = Check.town(SIX + XY + "quarrel q x y at a from 0 needs 9");
        Check.granted(all, "cellars(0) of all", all.cellars(0), 63);
        ThirdWitness none = Check.town(SIX + XY + "quarrel q x y at a from 59 needs 10");
        Check.granted(none, "cellars(0) of none", none.cellars(0), 0);
        // a sees all but f
        String seen = SIX + "sees a b;sees a c;sees a d;sees a e;" + XY + UVW + "quarrel q y x at a from 0 needs 9";
        ThirdWitness last = Check.town(seen);
        Check.granted(last, "cellars(0) of the last one", last.cellars(0), 32);
        Check.yes("brick(0)", last.brick(0));
        Check.granted(last, "cellars(0) and b", last.cellars(0), 34);
        ThirdWitness first = Check.town(SIX + "sees f b;sees f c;sees f d;sees f e;" + XY + UVW.replace("at a", "at f")
            + "quarrel q y x at b from 0 needs 9");
        Check.granted(first, "cellars(0) of the first one", first.cellars(0), 1);
    }

    private static void hour() {
        ThirdWitness x = Check.town(SIX + XY + UVW + "goes u b at 59;quarrel q x y at a from 0 needs 9;quarrel r x y at a from 0 needs 10;"
            + "quarrel s x y at f from 59 needs 99");
        Check.granted(x, "hour(0), the 59th", x.hour(0), 59);
        Check.granted(x, "hour(1) would be the 60th", x.hour(1), -2);
        Check.granted(x, "hour(2), minute 0, though it is from 59 on", x.hour(2), 0);
        ThirdWitness y = Check.town(SIX + XY + UVW + "goes u b at 58;quarrel q x y at a from 0 needs 18;quarrel r x y at a from 0 needs 19;"
            + "quarrel s x y at a from 0 needs 9");
        Check.granted(y, "hour(0)", y.hour(0), 58);
        Check.granted(y, "hour(1)", y.hour(1), -2);
        Check.granted(y, "hour(2)", y.hour(2), 58);
    }

    private static void longest() {
        // nobody would be at a place that is none
        ThirdWitness one = Check.town("town boys 0;place a;" + XY + UVW + "quarrel q x y at a from 0 needs 9");
        Check.granted(one, "longest(0) of one place", one.longest(0), 0);
        ThirdWitness stopped = Check.town("town boys 0;place a;" + XY + UVW + "quarrel q x y at a from 0 needs 99");
        Check.granted(stopped, "longest(0) of one place", stopped.longest(0), 0);
        ThirdWitness all = Check.town(SIX + XY + "quarrel q x y at f from 59 needs 9");
        Check.granted(all, "longest(0) of like ones", all.longest(0), 0);
        ThirdWitness last = Check.town(SIX + "sees a b;sees a c;sees a d;sees a e;" + XY + UVW + "quarrel q x y at a from 9 needs 10");
        Check.granted(last, "longest(0), the last one", last.longest(0), 5);
        Check.yes("brick(2)", last.brick(2));
        Check.granted(last, "longest(0), the first such", last.longest(0), 3);
        // won at the 59th minute at a and c, open at b
        ThirdWitness open = Check.town("town boys 0;place a;place b;place c;" + XY + UVW.replace("at a", "at b")
            + "quarrel q x y at a from 58 needs 18;quarrel r x y at a from 59 needs 10");
        Check.granted(open, "longest(0)", open.longest(0), 0);
        Check.granted(open, "longest(1)", open.longest(1), 0);
        ThirdWitness late = Check.town("town boys 0;place a;place b;place c;" + XY + UVW.replace("w plain at a", "w plain at b")
            + "goes w a at 59;quarrel q x y at a from 58 needs 99");
        // stopped at 59 at a, open elsewhere
        Check.granted(late, "longest(0): open is later than the 59th", late.longest(0), 1);
    }

    private static void moor() {
        ThirdWitness x = Check.town(SIX + "sees a b;sees a c;sees a d;sees a e;" + XY + UVW + "quarrel q x y at a from 59 needs 9;"
            + "quarrel r y x at f from 0 needs 99");
        Check.granted(x, "moor(0), minute 0 and the last place", x.moor(0), 5);
        Check.yes("brick(1)", x.brick(1));
        Check.granted(x, "moor(0), minute 0 and the first such place", x.moor(0), 2);
        Check.granted(x, "moor(1)", x.moor(1), 2);
        // until 58 the three see all five places from e; at 59 a and what is seen from there, all but e
        ThirdWitness y = Check.town("town boys 0;place a;place b;place c;place d;place e;sees e a;sees e b;sees e c;sees e d;sees a b;sees a c;"
            + "sees a d;person x plain at a wit 9;person y plain at a wit 0;" + UVW.replace("at a", "at e")
            + "goes u a at 59;goes v a at 59;goes w a at 59;quarrel q x y at a from 0 needs 9;quarrel r x y at a from 0 needs 10");
        Check.granted(y, "moor(0), minute 59", y.moor(0), 594);
        Check.granted(y, "moor(1)", y.moor(1), -2);
        Check.yes("brick(6)", y.brick(6));
        Check.granted(y, "moor(0), minute 59 and the first such place", y.moor(0), 593);
        Check.yes("brick(0)", y.brick(0));
        Check.granted(y, "moor(0)", y.moor(0), 0);
    }

    /** One more witness goes by all five other places: as long as one of their sights is open, he sees it. */
    private static void fiveBricks() {
        String ways = XY + UVW.replace("u plain at a", "u plain at b") + "goes u c at 1;goes u d at 2;goes u e at 3;goes u f at 4;"
            + "quarrel q x y at a from 0 needs 99";
        ThirdWitness x = Check.town(SIX + "sees b c;sees c d;sees d e;sees b a;sees c a;sees d a;sees e a;sees f a;" + ways);
        Check.granted(x, "bricks(0) of five", x.bricks(0), 248);
        for (int k = 3; k <= 7; k++) {
            Check.granted(x, "ends(0)", x.ends(0), 0);
            Check.yes("brick(" + k + ")", x.brick(k));
            Check.granted(x, "bricks(0), the open ones of them", x.bricks(0), 248 & ~((2 << k) - 1));
        }
        Check.granted(x, "ends(0)", x.ends(0), 1);
        ThirdWitness y = Check.town(SIX + "sees b a;sees c a;sees d a;sees e a;sees f a;sees b c;sees c d;sees d e;" + ways);
        Check.granted(y, "bricks(0) of five", y.bricks(0), 31);
        // three who are there can't be bricked up
        ThirdWitness there = Check.town(SIX + "sees b a;sees c a;" + XY + UVW + "quarrel q x y at a from 0 needs 99");
        Check.granted(there, "bricks(0) by none", there.bricks(0), -2);
        ThirdWitness open = Check.town(SIX + "sees b a;" + XY + "quarrel q x y at a from 59 needs 99");
        Check.granted(open, "bricks(0) of an open one", open.bricks(0), -2);
        ThirdWitness won = Check.town(SIX + "sees b a;" + XY + "quarrel q x y at a from 59 needs 9");
        Check.granted(won, "bricks(0) of one that is won", won.bricks(0), 0);
        ThirdWitness other = Check.town(SIX + "sees b a;" + XY + UVW.replace("at a", "at b") + "quarrel q y x at a from 59 needs 9");
        Check.granted(other, "bricks(0): won by the other one", other.bricks(0), 1);
    }

    private static void bricksOfBits() {
        // the three stand at f, e, d: any one sight of theirs will do; the least bits are of the first one told
        String people = XY + "person u plain at f wit 0;person v plain at e wit 0;person w plain at d wit 0;";
        ThirdWitness x = Check.town(SIX + "sees b a;sees c a;sees f a;sees d a;sees e a;" + people + "quarrel q x y at a from 0 needs 9");
        Check.granted(x, "bricks(0), of like ones the least bits", x.bricks(0), 4);
        Check.yes("brick(0)", x.brick(0));
        Check.granted(x, "bricks(0), though another one is bricked up", x.bricks(0), 4);
        // with one more at c two of four are needed
        ThirdWitness two = Check.town(SIX + "sees b a;sees c a;sees f a;sees d a;sees e a;" + people
            + "person t plain at c wit 0;quarrel q x y at a from 0 needs 9");
        Check.granted(two, "bricks(0) of two", two.bricks(0), 6);
        // two at c are one sight, though of more bits than two sights of one each
        ThirdWitness few = Check.town(SIX + "sees f a;sees d a;sees e a;sees c a;" + people.replace("v plain at e", "v plain at c")
            + "person t plain at c wit 0;quarrel q x y at a from 0 needs 9");
        Check.granted(few, "bricks(0), the fewest", few.bricks(0), 8);
    }

    /** Four with six eyes together: all of them, or it isn't stopped. */
    private static void stoppersOfAll() {
        String people = "person u plain at b wit 0;person v deaf at b wit 0;person w babe at b wit 0;person t babe at b wit 0;" + XY
            + "quarrel q x y at a from 0 needs 9;";
        String hires = "hire u for 20;hire v for 20;hire w for 20;hire t for 20;hire x for 20;hire y for 20";
        ThirdWitness x = Check.town(SIX + people + hires);
        Check.granted(x, "stoppers(0) of four", x.stoppers(0), 15);
        Check.granted(x, "price(0) of four", x.price(0), 80);
        for (String who : new String[] {"u", "v", "w", "t"}) {
            ThirdWitness less = Check.town(SIX + people + hires.replace("hire " + who + " for 20;", ""));
            Check.granted(less, "stoppers(0) without " + who, less.stoppers(0), -2);
            Check.granted(less, "price(0) without " + who, less.price(0), -2);
        }
        ThirdWitness blind = Check.town(SIX + people.replace("t babe", "t blind") + hires);
        Check.granted(blind, "stoppers(0) with five eyes", blind.stoppers(0), -2);
        ThirdWitness free = Check.town(SIX + people + hires.replace("20", "0"));
        Check.granted(free, "stoppers(0) for nothing", free.stoppers(0), 15);
        Check.granted(free, "price(0) for nothing", free.price(0), 0);
        ThirdWitness last = Check.town(SIX + XY + people.substring(0, people.indexOf(XY)) + "quarrel q x y at a from 0 needs 9;" + hires);
        Check.granted(last, "stoppers(0), the last four", last.stoppers(0), 60);
        // who can't be hired doesn't come, though he were the first one, or free of charge
        ThirdWitness first = Check.town(SIX + people + hires.substring(hires.indexOf("hire v")));
        Check.granted(first, "stoppers(0) without the first one", first.stoppers(0), -2);
        // price as the first call, behind an act
        Check.due("hire(0, 0)", x.hire(0, 0), 20);
        Check.granted(x, "price(0) with one there", x.price(0), 60);
        Check.due("hire(1, 1)", x.hire(1, 1), 20);
        Check.granted(x, "price(0) with one away", x.price(0), -2);
        Check.yes("undo()", x.undo());
        Check.granted(x, "price(0)", x.price(0), 60);
    }

    private static void stoppersOfPrices() {
        // they are sent to the quarrel's place, whatever its minute is
        for (int from : new int[] {0, 1, 5, 59}) {
            ThirdWitness x = Check.town(SIX + XY + UVW + "quarrel q x y at f from " + from + " needs 9;hire u for 1;hire v for 2;hire w for 3");
            Check.granted(x, "stoppers(0)", x.stoppers(0), 28);
            Check.granted(x, "price(0)", x.price(0), 6);
        }
        // two are there; one of three more is needed
        String people = SIX + "person p plain at b wit 0;person q plain at b wit 0;person s plain at a wit 0;person t plain at a wit 0;" + XY
            + "quarrel i x y at a from 0 needs 9;hire p for ";
        int[][] due = {{20, 19, 2, 19}, {19, 20, 1, 19}, {20, 20, 1, 20}, {0, 0, 1, 0}, {1, 0, 2, 0}, {0, 1, 1, 0}, {0, 20, 1, 0}};
        for (int[] d : due) {
            ThirdWitness x = Check.town(people + d[0] + ";hire q for " + d[1]);
            Check.granted(x, "stoppers(0) for " + d[0] + " or " + d[1], x.stoppers(0), d[2]);
            Check.granted(x, "price(0) for " + d[0] + " or " + d[1], x.price(0), d[3]);
            Check.granted(x, "spent()", x.spent(), 0);
        }
        // stopped by none who is hired at the 59th minute, too
        ThirdWitness late = Check.town(people + "3;goes p a at 59");
        Check.granted(late, "ends(0)", late.ends(0), 1);
        Check.granted(late, "stoppers(0)", late.stoppers(0), 1);
        ThirdWitness anyway = Check.town(people.replace("from 0", "from 59") + "3;goes p a at 59");
        Check.granted(anyway, "ends(0)", anyway.ends(0), 0);
        Check.granted(anyway, "stoppers(0)", anyway.stoppers(0), 0);
        Check.granted(anyway, "price(0)", anyway.price(0), 0);
    }

    private static void stoppedIf() {
        ThirdWitness x = Check.town(SIX + "sees f a;person p plain at b wit 0;" + XY + "person q plain at a wit 0;person r plain at a wit 0;"
            + "person s plain at b wit 0;quarrel i x y at a from 0 needs 9;quarrel k x q at b from 59 needs 9;quarrel l x r at f from 0 needs 1;"
            + "hire p for 0;hire s for 20");
        // as the first call: p makes the third one at a, or at f, from which one sees into it
        Check.granted(x, "stoppedIf(0, 0)", x.stoppedIf(0, 0), 1);
        Check.granted(x, "stoppedIf(0, 5)", x.stoppedIf(0, 5), 1);
        Check.granted(x, "stoppedIf(5, 5)", x.stoppedIf(5, 5), 1);
        Check.granted(x, "stoppedIf(0, 1)", x.stoppedIf(0, 1), 0);
        Check.yes("brick(0)", x.brick(0));
        Check.granted(x, "stoppedIf(0, 5)", x.stoppedIf(0, 5), 0);
        Check.granted(x, "stoppedIf(0, 0)", x.stoppedIf(0, 0), 1);
        for (int p = 1; p <= 4; p++) {
            Check.refused(x, "stoppedIf(" + p + ", 0)", x.stoppedIf(p, 0), 5);
            Check.refused(x, "stoppedIf(" + p + ", 6)", x.stoppedIf(p, 6), 1);
        }
    }

    private static void bestHire() {
        String witnesses = "person q plain at a wit 0;person r plain at a wit 0;";
        ThirdWitness first = Check.town(SIX + "person p plain at b wit 0;" + XY + witnesses + "quarrel i x y at a from 0 needs 9;hire p for 20");
        Check.granted(first, "bestHire(), the first one to the first place", first.bestHire(), 0);
        ThirdWitness last = Check.town(SIX + "person p plain at b wit 0;" + XY.replace("at a", "at f")
            + witnesses.replace("at a", "at f") + "person s plain at b wit 0;quarrel i x y at f from 0 needs 9;hire s for 20");
        Check.granted(last, "bestHire(), the last one to the last place", last.bestHire(), 55);
        // five people, six places
        ThirdWitness five = Check.town(SIX + XY + witnesses.replace("at a", "at f") + "person s plain at b wit 0;"
            + "quarrel i x y at f from 0 needs 9;hire s for 20");
        Check.granted(five, "bestHire() to the sixth place", five.bestHire(), 45);
        ThirdWitness both = Check.town(SIX + "sees e f;person p plain at b wit 0;" + XY + witnesses.replace("at a", "at f")
            + "person s plain at b wit 0;quarrel i x y at f from 0 needs 9;hire s for 0;hire p for 20");
        Check.granted(both, "bestHire(), the first such", both.bestHire(), 4);
        Check.due("hire(0, 4)", both.hire(0, 4), 20);
        Check.granted(both, "bestHire() of none more", both.bestHire(), -2);
        Check.yes("brick(0)", both.brick(0));
        Check.granted(both, "bestHire(), elsewhere", both.bestHire(), 5);
        Check.yes("dismiss(0)", both.dismiss(0));
        Check.granted(both, "bestHire()", both.bestHire(), 5);
    }

    private static final String FOUR = "person p plain at a wit 4;person q plain at a wit 4;person r plain at b wit 4;person s plain at b wit 4;";

    private static void fitsOfSixteen() {
        ThirdWitness x = Check.town(SIX + FOUR + "unsure s 1;unsure r 2;unsure q 3;unsure p 5");
        Check.granted(x, "fits()", x.fits(), 16);
        for (int i = 0; i < 16; i++) {
            Check.granted(x, "fitAt(" + i + ")", x.fitAt(i), i);
        }
        Check.refused(x, "fitAt(16)", x.fitAt(16), 1);
        Check.refused(x, "fitAt(-1)", x.fitAt(-1), 1);
        Check.granted(x, "could()", x.could(), 15);
        Check.granted(x, "surely()", x.surely(), 0);
        Check.granted(x, "ask()", x.ask(), 0);
        Check.granted(x, "askLeaves()", x.askLeaves(), 8);
        // the last set alone: each of the four has the other wit
        ThirdWitness last = Check.town(SIX + FOUR + "quarrel i p q at a from 0 needs 16;quarrel k r s at b from 0 needs 10;unsure s 1;"
            + "unsure r 6;unsure q 0;unsure p 8;ended i at 1;ended k at 1");
        Check.granted(last, "fits()", last.fits(), 1);
        Check.granted(last, "fitAt(0)", last.fitAt(0), 15);
        Check.refused(last, "fitAt(1)", last.fitAt(1), 1);
        Check.granted(last, "could()", last.could(), 15);
        Check.granted(last, "surely()", last.surely(), 15);
        Check.granted(last, "ask()", last.ask(), 0);
        Check.granted(last, "askLeaves()", last.askLeaves(), 1);
        Check.granted(last, "judge()", last.judge(), 0);
    }

    private static void fitsUnlike() {
        // p has 4 or 5, q has 4 or 3, r has 4 (4 again): i at 8 by a gain of 1, by p or by q alone
        ThirdWitness x = Check.town(SIX + FOUR + "quarrel i p q at a from 0 needs 9;unsure p 5;unsure q 3;unsure r 4;ended i at 8");
        Check.granted(x, "fits()", x.fits(), 4);
        int[] sets = {1, 2, 5, 6};
        for (int i = 0; i < 4; i++) {
            Check.granted(x, "fitAt(" + i + ")", x.fitAt(i), sets[i]);
        }
        Check.granted(x, "could()", x.could(), 7);
        Check.granted(x, "surely()", x.surely(), 0);
        ThirdWitness y = Check.town(SIX + FOUR + "quarrel i p q at a from 0 needs 9;unsure p 5;unsure q 3;ended i at 8");
        Check.granted(y, "fits()", y.fits(), 2);
        Check.granted(y, "could() of sets 1 and 2", y.could(), 3);
        Check.granted(y, "surely() of sets 1 and 2", y.surely(), 0);
        Check.granted(y, "ask()", y.ask(), 0);
        Check.granted(y, "askLeaves()", y.askLeaves(), 1);
        ThirdWitness none = Check.town(SIX + FOUR + "quarrel i p q at a from 0 needs 9;unsure p 5;unsure q 3;ended i at 9");
        Check.granted(none, "fits()", none.fits(), 0);
        Check.refused(none, "fitAt(0)", none.fitAt(0), 1);
        Check.granted(none, "could()", none.could(), 0);
        Check.granted(none, "surely() without a set", none.surely(), 0);
        Check.granted(none, "ask()", none.ask(), -2);
        Check.granted(none, "askLeaves()", none.askLeaves(), -2);
    }

    /** FITS and judge() are of the town as told: nobody hired, nothing bricked up, the first person and sight among them. */
    private static void fitsAsTold() {
        String text = SIX + "sees b a;person u plain at b wit 0;person v plain at a wit 0;person w plain at a wit 0;" + XY
            + "quarrel i x y at a from 0 needs 18;unsure x 5;hire u for 0;ended i at ";
        // u sees it from b: it is stopped at once
        for (int minute : new int[] {0, 1, 3}) {
            ThirdWitness x = Check.town(text + minute);
            for (int act = 0; act < 5; act++) {
                Check.granted(x, "fits() behind act " + act, x.fits(), minute == 0 ? 2 : 0);
                Check.granted(x, "judge() behind act " + act, x.judge(), minute == 0 ? -2 : 0);
                if (act == 0) {
                    Check.yes("brick(0)", x.brick(0));
                } else {
                    Check.due("hire", x.hire(0, new int[] {0, 0, 2, 1, 5}[act]), 0);
                }
            }
        }
        // the same where u is elsewhere: by x's wit it is won at 1, by the other wit at 3
        for (int minute : new int[] {0, 1, 2, 3}) {
            ThirdWitness x = Check.town(text.replace("u plain at b", "u plain at c") + minute);
            for (int act = 0; act < 4; act++) {
                Check.granted(x, "fits() behind act " + act, x.fits(), minute % 2);
                Check.granted(x, "could() behind act " + act, x.could(), minute == 3 ? 1 : 0);
                Check.granted(x, "judge() behind act " + act, x.judge(), minute == 1 ? -2 : 0);
                Check.due("hire", x.hire(0, act % 2), 0);
            }
        }
        // with the first place as the one where he would be sent to
        ThirdWitness first = Check.town(SIX + "person u plain at b wit 0;person v plain at a wit 0;person w plain at a wit 0;" + XY
            + "quarrel i x y at a from 0 needs 18;ended i at 1");
        Check.granted(first, "fits()", first.fits(), 1);
        Check.granted(first, "judge()", first.judge(), -2);
    }

    private static void asks() {
        // of the sets 1, 3, 5 and 7 q and r leave two each, p and s (in all, in none) four
        ThirdWitness x = Check.town(SIX + FOUR.replace("r plain at b wit 4", "r plain at b wit 0") + "unsure p 5;unsure q 3;unsure r 1;unsure s 7;"
            + "quarrel i p s at a from 0 needs 9;ended i at 8");
        // i ends at 8 by a gain of 1 alone: p 5, s 4
        Check.granted(x, "fits()", x.fits(), 4);
        Check.granted(x, "surely()", x.surely(), 1);
        Check.granted(x, "could()", x.could(), 7);
        Check.granted(x, "ask(), the first of q and r", x.ask(), 1);
        Check.granted(x, "askLeaves()", x.askLeaves(), 2);
        // the last one of four
        ThirdWitness last = Check.town(SIX + FOUR + "unsure p 5;unsure q 3;unsure r 9;unsure s 7;quarrel i p q at a from 0 needs 9;ended i at 4;"
            + "quarrel k r p at b from 0 needs 12;ended k at 2");
        Check.granted(last, "fits()", last.fits(), 2);
        Check.granted(last, "fitAt(0)", last.fitAt(0), 7);
        Check.granted(last, "fitAt(1)", last.fitAt(1), 15);
        Check.granted(last, "ask(), the last one", last.ask(), 3);
        Check.granted(last, "askLeaves()", last.askLeaves(), 1);
        Check.granted(last, "surely()", last.surely(), 7);
        // one unsure alone, in none, in all
        ThirdWitness one = Check.town(SIX + FOUR + "unsure s 0");
        Check.granted(one, "ask()", one.ask(), 0);
        Check.granted(one, "askLeaves()", one.askLeaves(), 1);
    }

    private static void judge() {
        String text = SIX + XY + "quarrel i x y at a from 0 needs 9;quarrel k x y at a from 0 needs 9;quarrel l x y at a from 0 needs 9";
        for (int i = 0; i < 27; i++) {
            // each isn't told to have ended, or at minute 0 (which is so), or at another one
            int[] kinds = {i % 3, i / 3 % 3, i / 9};
            StringBuilder more = new StringBuilder(text);
            int due = -2;
            for (int q = 2; q >= 0; q--) {
                if (kinds[q] > 0) {
                    more.append(";ended ").append("ikl".charAt(q)).append(kinds[q] == 1 ? " at 0" : " at 59");
                }
                due = kinds[q] == 2 ? q : due;
            }
            ThirdWitness x = Check.town(more.toString());
            Check.granted(x, "judge() of " + more, x.judge(), due);
            Check.granted(x, "fits() of " + more, x.fits(), due == -2 ? 1 : 0);
        }
    }

    private static void swings() {
        // none else sees it: one set, of none; with all six of two eyes each: two of five others
        ThirdWitness x = Check.town(SIX + "sees a b;person p plain at a wit 0;person q plain at a wit 0;person r plain at a wit 0;"
            + "person s plain at a wit 0;person t plain at a wit 0;person u plain at a wit 0;goes u f at 59;hire u for 0");
        for (int p = 0; p < 6; p++) {
            terms(x, p, 0, 0, 5, 16);
            terms(x, p, 1, 58, 5, 16);
            terms(x, p, 5, 0, 0, 1);
            terms(x, p, 1, 59, p == 5 ? 0 : 3, p == 5 ? 1 : 8);
            terms(x, p, 5, 59, 0, 1);
        }
        Check.due("hire(5, 0)", x.hire(5, 0), 0);
        terms(x, 5, 0, 59, 5, 16);
        // five eyes and one more: by a babe; four and two; five and none
        ThirdWitness y = Check.town("town boys 0;place a;person p plain at a wit 0;person q plain at a wit 0;person r babe at a wit 0;"
            + "person s babe at a wit 0;person t blind at a wit 0");
        terms(y, 3, 0, 0, 1, 8);
        terms(y, 2, 0, 0, 1, 8);
        terms(y, 4, 0, 0, 0, 1);
        terms(y, 0, 0, 0, 1, 8);
        for (int wrong : new int[] {-1, 60}) {
            Check.refused(y, "swings(0, 0, " + wrong + ")", y.swings(0, 0, wrong, true), 2);
            Check.refused(y, "swings(5, 0, " + wrong + ")", y.swings(5, 0, wrong, true), 1);
            Check.refused(y, "swings(0, 1, " + wrong + ")", y.swings(0, 1, wrong, false), 1);
        }
    }

    private static void terms(ThirdWitness x, int p, int place, int minute, long upper, long lower) {
        String call = "swings(" + p + ", " + place + ", " + minute;
        Check.granted(x, call + ", false)", x.swings(p, place, minute, false), upper);
        Check.granted(x, call + ", true)", x.swings(p, place, minute, true), lower);
    }

    private static void three() {
        // all who see it, and no fewer
        ThirdWitness all = Check.town(SIX + "person p plain at a wit 0;person q plain at a wit 0;person r plain at a wit 0");
        Check.granted(all, "three(0, 0) of three", all.three(0, 0), 7);
        ThirdWitness babes = Check.town(SIX + "person p babe at a wit 0;person q babe at a wit 0;person r babe at a wit 0;"
            + "person s babe at a wit 0;person t babe at a wit 0;person u babe at a wit 0;goes u b at 59");
        Check.granted(babes, "three(0, 58) of six babes", babes.three(0, 58), 63);
        Check.granted(babes, "three(0, 59) of five", babes.three(0, 59), -2);
        Check.granted(babes, "three(5, 0) of nobody", babes.three(5, 0), -2);
        ThirdWitness last = Check.town(SIX + "sees b f;person p babe at f wit 0;person q blind at f wit 0;person r babe at f wit 0;"
            + "person s plain at b wit 0;person t deaf at f wit 0;person u plain at b wit 0");
        Check.granted(last, "three(5, 59), the last three", last.three(5, 59), 56);
        Check.yes("brick(0)", last.brick(0));
        Check.granted(last, "three(5, 59)", last.three(5, 59), -2);
    }
}
