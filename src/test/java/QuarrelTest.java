/** Promises 15 to 21 and 56: how quarrels end, and who sees them. */
public final class QuarrelTest {
    /** Two at a, who quarrel from minute 10 on; b sees into a. */
    private static final String TWO = "town boys 0;place a;place b;place c;sees b a;";
    private static final String XY = "person x plain at a wit 4;person y plain at a wit 1;";

    private QuarrelTest() {
    }

    public static void main(String[] args) {
        wonByFirst();
        wonByOther();
        wonAtTheLastMinute();
        open();
        stoppedAtOnce();
        stoppedAheadOfWords();
        notByFiveEyes();
        onceForAll();
        theTwoDoNotCount();
        elsewhereForIt();
        third();
        won();
        nurse();
        led();
        refusals();
        Check.close();
    }

    private static void ends(String text, int how, int minute, int lead, int seen, int third) {
        ThirdWitness x = Check.town(text);
        Check.granted(x, "ends(0) of " + text, x.ends(0), how);
        Check.granted(x, "endsAt(0) of " + text, x.endsAt(0), minute);
        Check.granted(x, "lead(0) of " + text, x.lead(0), lead);
        Check.granted(x, "seen(0) of " + text, x.seen(0), seen);
        Check.granted(x, "third(0) of " + text, x.third(0), third);
    }

    private static void wonByFirst() {
        ends(TWO + XY + "quarrel q x y at a from 10 needs 9", 1, 12, 1009, 0, -2);
        ends(TWO + XY + "quarrel q x y at a from 10 needs 3", 1, 10, 1003, 0, -2);
        ends(TWO + XY + "quarrel q x y at a from 10 needs 4", 1, 11, 1006, 0, -2);
        ends(TWO + XY + "quarrel q x y at a from 0 needs 1", 1, 0, 1003, 0, -2);
    }

    private static void wonByOther() {
        ends(TWO + XY + "quarrel q y x at a from 10 needs 9", 2, 12, 991, 0, -2);
        ends(TWO + XY + "person z babe at b wit 9;quarrel q y x at a from 10 needs 7", 2, 12, 991, 4, -2);
    }

    private static void wonAtTheLastMinute() {
        ends(TWO + XY + "quarrel q x y at a from 30 needs 90", 1, 59, 1090, 0, -2);
        ends(TWO + XY + "quarrel q x y at a from 30 needs 91", -2, -2, 1090, 0, -2);
        ends(TWO + XY + "quarrel q x y at a from 59 needs 3", 1, 59, 1003, 0, -2);
        ends(TWO + XY + "quarrel q x y at a from 59 needs 4", -2, -2, 1003, 0, -2);
    }

    private static void open() {
        String equal = TWO + "person x plain at a wit 4;person y plain at a wit 4;";
        ends(equal + "quarrel q x y at a from 0 needs 1", -2, -2, 1000, 0, -2);
        // seen by the 59th minute
        ends(equal + "person z deaf at c wit 0;goes z b at 59;quarrel q x y at a from 0 needs 1", -2, -2, 1000, 4, -2);
        ends(TWO + "person x plain at a wit 0;person y plain at a wit 1;quarrel q x y at a from 0 needs 99",
            -2, -2, 940, 0, -2);
    }

    private static final String THREE = "person u plain at b wit 0;person v deaf at a wit 0;person w plain at b wit 0;";

    private static void stoppedAtOnce() {
        ends(TWO + XY + THREE + "quarrel q x y at a from 10 needs 3", 0, 10, 1000, 28, 2);
        ends(TWO + XY + THREE + "quarrel q x y at c from 10 needs 3", 1, 10, 1003, 0, -2);
        ends(TWO + XY + THREE + "quarrel q x y at b from 10 needs 3", 1, 10, 1003, 20, -2);
    }

    private static void stoppedAheadOfWords() {
        String late = TWO + XY + "person u plain at c wit 0;person v deaf at a wit 0;person w plain at b wit 0;goes u a at 12;";
        ends(late + "quarrel q x y at a from 10 needs 9", 0, 12, 1006, 28, 2);
        ends(late + "quarrel q x y at a from 10 needs 6", 1, 11, 1006, 24, -2);
        ends(late + "quarrel q y x at a from 10 needs 99", 0, 12, 994, 28, 2);
    }

    private static void notByFiveEyes() {
        String five = TWO + XY + "person u plain at b wit 0;person v deaf at a wit 0;person w babe at b wit 0;"
            + "person z blind at a wit 0;";
        ends(five + "quarrel q x y at a from 10 needs 9", 1, 12, 1009, 60, -2);
        String six = TWO + "person x babe at a wit 4;person y plain at a wit 1;person u plain at b wit 0;"
            + "person v deaf at a wit 0;person w babe at b wit 0;person z babe at a wit 0;";
        ends(six + "quarrel q x y at a from 10 needs 9", 0, 10, 1000, 60, 2);
    }

    private static void onceForAll() {
        // three who come one behind the other, and go again
        String passing = TWO + XY + "person u plain at c wit 0;person v deaf at c wit 0;person w plain at c wit 0;"
            + "goes u a at 20;goes u c at 21;goes v b at 22;goes v c at 23;goes w a at 30;goes w c at 31;";
        ends(passing + "quarrel q x y at a from 10 needs 99", 0, 30, 1060, 28, 4);
        ends(passing + "quarrel q x y at a from 21 needs 99", 1, 53, 1099, 24, -2);
        ends(passing + "quarrel q x y at a from 20 needs 30", 1, 29, 1030, 12, -2);
        // who sees it twice has seen it once
        String twice = TWO + XY + "person u plain at a wit 0;person v plain at a wit 0;goes u c at 20;goes u a at 21;";
        ends(twice + "quarrel q x y at a from 10 needs 99", 1, 42, 1099, 12, -2);
    }

    private static void theTwoDoNotCount() {
        String four = TWO + XY + "person u plain at a wit 0;person v deaf at a wit 0;";
        ends(four + "quarrel q x y at a from 10 needs 9", 1, 12, 1009, 12, -2);
        ends(four + "person w plain at c wit 0;quarrel q x w at a from 10 needs 9", 0, 10, 1000, 14, 1);
    }

    private static void elsewhereForIt() {
        // where the two are told to be is nothing to their quarrel, but other quarrels see them there
        ThirdWitness x = Check.town(TWO + "person x plain at c wit 4;person y plain at a wit 1;person u plain at c wit 0;"
            + "person v plain at a wit 0;quarrel q x y at a from 0 needs 3;quarrel r u v at c from 0 needs 1;"
            + "quarrel s u v at a from 0 needs 1;hire x for 1");
        Check.granted(x, "ends(0)", x.ends(0), 1);
        Check.granted(x, "seen(0)", x.seen(0), 8);
        Check.granted(x, "seen(1)", x.seen(1), 1);
        Check.granted(x, "seen(2)", x.seen(2), 2);
        Check.due("hire(0, 0)", x.hire(0, 0), 1);
        Check.granted(x, "ends(0)", x.ends(0), 1);
        Check.granted(x, "seen(0)", x.seen(0), 8);
        Check.granted(x, "seen(1)", x.seen(1), 0);
        Check.granted(x, "seen(2)", x.seen(2), 3);
    }

    private static void third() {
        // a blind one who saw it first at that minute has seen it as well as another one
        String text = TWO + "person z blind at c wit 0;" + XY
            + "person u plain at a wit 0;person v deaf at a wit 0;person w plain at c wit 0;goes z a at 5;goes w a at 5;";
        ends(text + "quarrel q x y at a from 4 needs 99", 0, 5, 1003, 57, 0);
        ends(text + "quarrel q x y at a from 5 needs 99", 0, 5, 1000, 57, 0);
        String later = text.replace("goes z a at 5", "goes z a at 3");
        ends(later + "quarrel q x y at a from 4 needs 99", 0, 5, 1003, 57, 5);
        ends(later + "quarrel q x y at a from 5 needs 99", 0, 5, 1000, 57, 0);
    }

    private static final String TOWN = TWO + "person x plain at a wit 4;person y plain at a wit 1;person u plain at b wit 0;"
        + "person v blind at a wit 0;person w babe at b wit 0;person t babe at c wit 0;";

    private static void won() {
        ThirdWitness x = Check.town(TOWN + "quarrel q x y at a from 0 needs 3;quarrel r u v at a from 0 needs 3;"
            + "quarrel s y x at c from 0 needs 3");
        Check.granted(x, "won()", x.won(), 5);
        Check.granted(x, "ends(2)", x.ends(2), 2);
        Check.due("town without quarrels", Check.tell(x, TOWN.substring(0, TOWN.length() - 1)), 3);
        Check.granted(x, "won() without quarrels", x.won(), 0);
    }

    private static void nurse() {
        // q is seen by u, v, w: 2 + 0 + 1 eyes; neither v nor w alone makes six
        ThirdWitness x = Check.town(TOWN + "quarrel q x y at a from 0 needs 99");
        Check.granted(x, "nurse()", x.nurse(), -2);
        ThirdWitness y = Check.town(TWO + "person w babe at a wit 0;" + XY + "person u plain at b wit 0;"
            + "person v blind at a wit 0;person t deaf at a wit 0;quarrel q x y at a from 0 needs 99;"
            + "quarrel r x u at a from 0 needs 99");
        // q: w 1, u 2, v 0, t 2: v makes it 7, w 6; r: w 1, y 2, v 0, t 2: likewise
        Check.granted(y, "nurse(), the first such", y.nurse(), 0);
        ThirdWitness z = Check.town(TWO + "person w babe at a wit 0;" + XY + "person u plain at b wit 0;"
            + "person v blind at a wit 0;person t deaf at a wit 0;quarrel q x y at a from 0 needs 99;"
            + "quarrel r x w at a from 0 needs 99");
        // r: y 2, u 2, v 0, t 2: stopped anyway; q is stopped by w or v
        Check.granted(z, "nurse() of more", z.nurse(), 0);
        ThirdWitness most = Check.town(TWO + "person w babe at a wit 0;" + XY + "person u plain at b wit 0;"
            + "person v blind at a wit 0;person t babe at b wit 0;quarrel q x y at a from 0 needs 99;"
            + "quarrel r w t at a from 0 needs 99");
        // q: w 1, u 2, v 0, t 1: v makes 6; r: x 2, y 2, u 2: stopped anyway
        Check.granted(most, "nurse()", most.nurse(), 4);
        Check.granted(most, "person(4, 0) stays", most.person(4, 0), 2);
        Check.granted(most, "person(4, 2) stays", most.person(4, 2), 0);
        Check.granted(most, "ends(0) stays", most.ends(0), 1);
        ThirdWitness two = Check.town(TWO + "person w babe at a wit 0;person v blind at a wit 0;person x plain at a wit 4;"
            + "person y plain at a wit 1;person u plain at b wit 0;person t babe at c wit 0;"
            + "quarrel q u t at a from 0 needs 99;quarrel r w x at b from 0 needs 1;quarrel s w u at a from 0 needs 9");
        // q: w 1, v 0, x 2, y 2: by w 6, by v 7; s: v 0, x 2, y 2: by v 6 - so v stops two more
        Check.granted(two, "nurse()", two.nurse(), 1);
    }

    private static void led() {
        ThirdWitness x = Check.town(TOWN + "quarrel q u v at a from 0 needs 1;quarrel r x y at a from 0 needs 3;"
            + "quarrel s u w at b from 59 needs 1");
        Check.due("ends(0)", x.ends(0), -2);
        Check.due("ends(1)", x.ends(1), 1);
        Check.due("ends(2)", x.ends(2), -2);
        Check.refused(x, "ends(3)", x.ends(3), 1);
        Check.due("led(0)", x.led(0), 0);
        Check.due("led(1)", x.led(1), 2);
        Check.throwsNoSuchElement("led(2)", () -> x.led(2) > 0);
        Check.throwsNoSuchElement("led(-1)", () -> x.led(-1) > 0);
        Check.throwsNoSuchElement("led(MIN)", () -> x.led(Integer.MIN_VALUE) > 0);
        Check.throwsNoSuchElement("led(MAX)", () -> x.led(Integer.MAX_VALUE) > 0);
        Check.due("trouble() is none of led's", x.trouble(), 1);
        ThirdWitness none = new ThirdWitness();
        Check.throwsNoSuchElement("led(0) without a town", () -> none.led(0) > 0);
    }

    private static void refusals() {
        ThirdWitness x = Check.town(TOWN + "quarrel q x y at a from 0 needs 3");
        for (int q : new int[] {-1, 1, 3, Integer.MAX_VALUE, Integer.MIN_VALUE}) {
            Check.refused(x, "ends", x.ends(q), 1);
            Check.refused(x, "endsAt", x.endsAt(q), 1);
            Check.refused(x, "lead", x.lead(q), 1);
            Check.refused(x, "seen", x.seen(q), 1);
            Check.refused(x, "third", x.third(q), 1);
        }
        ThirdWitness none = new ThirdWitness();
        Check.refused(none, "ends", none.ends(0), 1);
        Check.refused(none, "endsAt", none.endsAt(0), 1);
        Check.refused(none, "lead", none.lead(0), 1);
        Check.refused(none, "seen", none.seen(0), 1);
        Check.refused(none, "third", none.third(0), 1);
        Check.refused(none, "won", none.won(), 1);
        Check.refused(none, "nurse", none.nurse(), 1);
    }
}
