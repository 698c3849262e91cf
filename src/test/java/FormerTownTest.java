import java.util.Arrays;
import java.util.Random;

/** Promise 3: from town() on the town is the one of the text alone; nothing of an earlier one, good or faulty, is left. */
public final class FormerTownTest {
    private static final String TAIL = ";person x plain at a wit 3;person y plain at b wit 0;";

    private FormerTownTest() {
    }

    public static void main(String[] args) {
        namesOfFormerTowns();
        linesOfFormerTowns();
        quarrelsOfFormerTowns();
        fitsOfFormerTowns();
        actsOfFormerTowns();
        likeTowns();
        randomTowns();
        Check.close();
    }

    private static void fault(ThirdWitness x, String text, int number, int place) {
        Check.due("town: " + text, Check.tell(x, text), -1);
        Check.due("fault of: " + text, x.fault(), number);
        Check.due("where of: " + text, x.where(), place);
    }

    private static void namesOfFormerTowns() {
        ThirdWitness x = Check.town("town boys 0;place a;place b;place c" + TAIL + "quarrel q x y at a from 0 needs 1");
        for (int i = 0; i < 3; i++) {
            fault(x, "town boys 0;place c;sees c b", 2, 27);
            fault(x, "town boys 0;place c;place d;place e;person x plain at b wit 3", 2, 54);
            fault(x, "town boys 0;place c;place d;place e;goes x c at 1", 2, 41);
            fault(x, "town boys 0;place c;ended q at 1", 2, 26);
        }
        // told by a text that was refused
        fault(x, "town boys 0;place a;place b;place z!", 1, 35);
        fault(x, "town boys 0;place a;sees a b", 2, 27);
        fault(x, "town boys 0;place b;sees b a", 2, 27);
        // other sorts now, and in another order
        Check.due("town", Check.tell(x, "town boys 0;place y;place q;person a plain at y wit 1;person b plain at q wit 1;"
            + "quarrel x a b at q from 1 needs 2"), 2);
        Check.due("quarrel(0, 2)", x.quarrel(0, 2), 1);
    }

    private static void linesOfFormerTowns() {
        String text = "town boys 9;place a;place b;sees a b;sees b a" + TAIL + "goes x b at 50;goes y a at 50;"
            + "quarrel q x y at a from 0 needs 1;hire x for 1;hire y for 2;unsure x 1;unsure y 1;ended q at 0";
        ThirdWitness x = Check.town(text);
        // each line of it is told once again, and its minutes begin again
        for (int i = 0; i < 4; i++) {
            Check.due("the same town again", Check.tell(x, text), 2);
            Check.due("town with earlier goings", Check.tell(x, text.replace("50", "1")), 2);
            fault(x, text + ";sees b a", 3, text.length() + 8);
            fault(x, text + ";town boys 1", 3, text.length() + 1);
        }
        fault(x, "place a", 6, 0);
        fault(x, "town boys 0;place a;place b;hire a for 1", 2, 33);
        Check.due("size(3) stays", x.size(3), 2);
        Check.due("town without lines", Check.tell(x,
            "town boys 0;place a;person x plain at a wit 3;person y plain at a wit 0"), 1);
        int[] due = {0, 1, 0, 2, 0, 0, 0, 0, 0, 0, 0, 0};
        for (int what = 0; what < due.length; what++) {
            Check.due("size(" + what + ")", x.size(what), due[what]);
        }
        Check.due("at(0, 59)", x.at(0, 59), 0);
        Check.due("person(0, 3)", x.person(0, 3), -2);
        Check.due("person(1, 5)", x.person(1, 5), 0);
        Check.refused(x, "sight(0, 0)", x.sight(0, 0), 1);
        Check.refused(x, "stoppedIf(0, 0)", x.stoppedIf(0, 0), 5);
    }

    /** Of three towns one behind the other the third one has fewer quarrels than the first one, all open. */
    private static void quarrelsOfFormerTowns() {
        String people = "town boys 0;place a;place b;person x plain at a wit 3;person y plain at b wit 3;";
        String quarrels = "quarrel q x y at a from 0 needs 1;quarrel r x y at b from 0 needs 1;quarrel s y x at b from 0 needs 1";
        ThirdWitness x = Check.town(people + quarrels);
        for (int i = 0; i < 3; i++) {
            Check.due("town of three open ones", Check.tell(x, people + quarrels), 2);
        }
        Check.due("led(2)", x.led(2), 2);
        for (int i = 0; i < 3; i++) {
            Check.due("town of one open one", Check.tell(x, people + quarrels.substring(0, 33)), 2);
            Check.due("led(0)", x.led(0), 0);
            Check.throwsNoSuchElement("led(1)", () -> x.led(1) > 0);
            Check.throwsNoSuchElement("led(2)", () -> x.led(2) > 0);
        }
        Check.due("town of no quarrel", Check.tell(x, people.substring(0, people.length() - 1)), 2);
        Check.throwsNoSuchElement("led(0)", () -> x.led(0) > 0);
        Check.due("won()", x.won(), 0);
        Check.due("nurse()", x.nurse(), -2);
        Check.due("bestHire()", x.bestHire(), -2);
        Check.due("judge()", x.judge(), -2);
    }

    private static void fitsOfFormerTowns() {
        String people = "town boys 0;place a" + TAIL.replace("at b", "at a") + "person z plain at a wit 0";
        ThirdWitness x = Check.town(people + ";unsure x 4;unsure y 1;unsure z 5");
        Check.due("fits()", x.fits(), 8);
        Check.due("could()", x.could(), 7);
        // fewer sets behind eight, then one behind two
        Check.due("town", Check.tell(x, people + ";unsure x 4;unsure y 1;quarrel q x y at a from 0 needs 7;ended q at 2"), 1);
        Check.due("fits()", x.fits(), 2);
        Check.due("fitAt(0)", x.fitAt(0), 0);
        Check.due("fitAt(1)", x.fitAt(1), 3);
        Check.refused(x, "fitAt(2)", x.fitAt(2), 1);
        Check.due("could()", x.could(), 3);
        Check.due("town", Check.tell(x, people + ";unsure x 4;quarrel q x y at a from 0 needs 3;ended q at 0;quarrel r x y at a "
            + "from 0 needs 8;ended r at 2"), 1);
        Check.due("fits()", x.fits(), 1);
        Check.due("could()", x.could(), 0);
        Check.due("surely()", x.surely(), 0);
        Check.due("ask()", x.ask(), 0);
        Check.due("askLeaves()", x.askLeaves(), 1);
        // two sets behind sets of which the third one has bits of both unsure ones
        Check.due("town", Check.tell(x, people + ";unsure x 4;unsure y 1;quarrel q x y at a from 0 needs 6;ended q at 1"), 1);
        int[] sets = {0, 1, 3};
        for (int i = 0; i < 3; i++) {
            Check.due("fitAt(" + i + ")", x.fitAt(i), sets[i]);
        }
        Check.due("town", Check.tell(x, people + ";unsure x 4"), 1);
        Check.due("fits()", x.fits(), 2);
        Check.due("ask()", x.ask(), 0);
        Check.due("askLeaves()", x.askLeaves(), 1);
        Check.due("town", Check.tell(x, people), 1);
        Check.due("fits() of nobody unsure", x.fits(), 1);
        Check.due("could() of nobody unsure", x.could(), 0);
        Check.due("ask() of nobody unsure", x.ask(), -2);
    }

    private static void actsOfFormerTowns() {
        ThirdWitness x = Check.town(Calls.FULL);
        for (int i = 0; i < 2; i++) {
            for (int k = 0; k < 8; k++) {
                Check.yes("brick", x.brick(k));
            }
            for (int p = 0; p < 6; p++) {
                Check.due("hire", x.hire(p, 5 - p), p + 1);
            }
            Check.due("images", x.image() + x.image() + x.image(), 3);
            Check.due("the same town again", Check.tell(x, Calls.FULL), 6);
            Check.yes("all is as told", Arrays.equals(Calls.dump(x), Calls.dump(Check.town(Calls.FULL))));
            Check.denied(x, "undo()", x.undo(), 6);
            for (int image = 0; image < 3; image++) {
                Check.denied(x, "back", x.back(image), 1);
            }
        }
    }

    private static void likeTowns() {
        String least = "town boys 0;place a";
        ThirdWitness x = Check.town(Calls.FULL);
        Check.due("the least town behind the greatest", Check.tell(x, least), 1);
        Check.yes("all is as told", Arrays.equals(Calls.dump(x), Calls.dump(Check.town(least))));
        Check.due("the greatest behind the least", Check.tell(x, Calls.FULL), 6);
        Check.yes("all is as told", Arrays.equals(Calls.dump(x), Calls.dump(Check.town(Calls.FULL))));
    }

    /** Some towns one behind the other, faulty ones between: all is as if the latest good one had been told alone. */
    private static void randomTowns() {
        for (int seed = 0; seed < 400; seed++) {
            Random random = new Random(seed);
            ThirdWitness x = new ThirdWitness();
            String latest = null;
            for (int i = 0; i < 4; i++) {
                Texts texts = new Texts(random);
                String sound = texts.ended(texts.sound());
                String text = i > 0 && random.nextInt(3) == 0 ? texts.spoilt(sound) : sound;
                if (text.length() <= 900) {
                    latest = Check.tell(x, text) > 0 ? text : latest;
                    x.brick(random.nextInt(4));
                    x.hire(random.nextInt(6), random.nextInt(6));
                    x.image();
                    while (i < 4 && x.undo()) {
                        Check.due("trouble()", x.trouble(), 0);
                    }
                }
            }
            if (latest != null) {
                ThirdWitness alone = Check.town(latest);
                for (int image = 0; image < x.size(10); image++) {
                    alone.image();
                }
                Check.yes("all is as told by " + latest, Arrays.equals(Calls.dump(x), Calls.dump(alone)));
            }
        }
    }
}
