import java.util.function.ToLongFunction;

/**
 * Promises 5 and 58 behind each call: trouble() is 0 behind a call that isn't refused, whatever was refused ahead of it,
 * even if it answers -2, 0 or nothing; its own number behind a call that is, and where() is NONE then but for a FAULT.
 */
public final class TroubleTest {
    /** Nothing stops q, nothing but a boy r; p's wit is unsure. */
    private static final String TEXT = "town boys 50;place a;place b;sees a b;sees b a;person p plain at a wit 1;"
        + "person s plain at a wit 1;person t plain at a wit 0;person u plain at a wit 0;quarrel q p s at a from 0 needs 9;"
        + "quarrel r p t at a from 58 needs 9;hire u for 0;unsure p 2;ended q at 8";

    private TroubleTest() {
    }

    public static void main(String[] args) {
        looksBehindTroubles();
        minusTwos();
        zerosAndMore();
        acts();
        town();
        eachNumber();
        Check.close();
    }

    /** Makes a trouble of each number, and one more that leaves a place for where(): 4. */
    private static ThirdWitness inTrouble(int number) {
        ThirdWitness x = Check.town(TEXT);
        switch (number) {
            case 1:
                Check.refused(x, "into(9)", x.into(9), 1);
                break;
            case 2:
                Check.refused(x, "hidden(60)", x.hidden(60), 2);
                break;
            case 3:
                Check.due("images", x.image() + x.image() + x.image(), 3);
                Check.refused(x, "image()", x.image(), 3);
                break;
            case 4:
                Check.due("town", Check.tell(x, "town boys 0"), -1);
                Check.due("where()", x.where(), 11);
                break;
            case 5:
                Check.denied(x, "dismiss(0)", x.dismiss(0), 5);
                break;
            default:
                Check.denied(x, "undo()", x.undo(), 6);
        }
        Check.due("trouble()", x.trouble(), number);
        return x;
    }

    /** A call that is granted, behind each of the troubles. */
    private static void granted(String call, ToLongFunction<ThirdWitness> made, long due) {
        for (int number = 1; number <= 6; number++) {
            ThirdWitness x = inTrouble(number);
            Check.granted(x, call + " behind trouble " + number, made.applyAsLong(x), due);
            Check.due("where() behind " + call, x.where(), -1);
        }
    }

    private static void refused(String call, ToLongFunction<ThirdWitness> made, long none, int trouble) {
        for (int number = 1; number <= 6; number++) {
            ThirdWitness x = inTrouble(number);
            Check.due(call + " behind trouble " + number, made.applyAsLong(x), none);
            Check.due("trouble behind " + call + " behind " + number, x.trouble(), trouble);
            Check.due("where() behind " + call, x.where(), -1);
        }
    }

    private static void looksBehindTroubles() {
        for (Calls.Call call : Calls.LOOKS) {
            int[] with = new int[call.sorts.length];
            boolean hires = call.name.equals("stoppedIf");
            if (hires) {
                with[0] = 3;
            }
            for (int number = 1; number <= 6; number++) {
                ThirdWitness x = inTrouble(number);
                call.answer.of(x, with);
                Check.due("trouble behind " + call.told(with) + " behind " + number, x.trouble(), 0);
                Check.due("where() behind " + call.told(with), x.where(), -1);
            }
        }
        int[] person = {0, 1, 2, -2, -2, 3};
        for (int what = 0; what < 6; what++) {
            int asked = what;
            granted("person(0, " + what + ")", x -> x.person(0, asked), person[what]);
        }
        int[] sight = {1, 0, 0};
        for (int what = 0; what < 3; what++) {
            int asked = what;
            granted("sight(1, " + what + ")", x -> x.sight(1, asked), sight[what]);
        }
        int[] quarrel = {0, 2, 0, 58, 9};
        for (int what = 0; what < 5; what++) {
            int asked = what;
            granted("quarrel(1, " + what + ")", x -> x.quarrel(1, asked), quarrel[what]);
        }
        granted("fitAt(0)", x -> x.fitAt(0), 1);
        granted("stoppedIf(3, 1)", x -> x.stoppedIf(3, 1), 0);
    }

    /** -2 is an answer, and no refusal. */
    private static void minusTwos() {
        granted("person(0, 3)", x -> x.person(0, 3), -2);
        granted("person(3, 4)", x -> x.person(3, 4), -2);
        granted("ends(0)", x -> x.ends(0), -2);
        granted("endsAt(0)", x -> x.endsAt(0), -2);
        granted("third(0)", x -> x.third(0), -2);
        granted("nurse()", x -> x.nurse(), -2);
        granted("endsIf(1, 0, 59)", x -> x.endsIf(1, 0, 59), -2);
        granted("hour(0)", x -> x.hour(0), -2);
        granted("moor(0)", x -> x.moor(0), -2);
        granted("bricks(0)", x -> x.bricks(0), -2);
        granted("stoppers(0)", x -> x.stoppers(0), -2);
        granted("price(0)", x -> x.price(0), -2);
        granted("bestHire()", x -> x.bestHire(), -2);
        ThirdWitness nobody = Check.town("town boys 0;place a");
        Check.denied(nobody, "undo()", nobody.undo(), 6);
        Check.granted(nobody, "ask()", nobody.ask(), -2);
        Check.denied(nobody, "undo()", nobody.undo(), 6);
        Check.granted(nobody, "askLeaves()", nobody.askLeaves(), -2);
        Check.denied(nobody, "undo()", nobody.undo(), 6);
        Check.granted(nobody, "judge()", nobody.judge(), -2);
        Check.denied(nobody, "undo()", nobody.undo(), 6);
        Check.granted(nobody, "three(0, 0)", nobody.three(0, 0), -2);
    }

    private static void zerosAndMore() {
        granted("endsBy(1, 65536)", x -> x.endsBy(1, 65536), 0);
        granted("endsByAt(1, 65536)", x -> x.endsByAt(1, 65536), 58);
        granted("three(1, 0)", x -> x.three(1, 0), 7);
        granted("won()", x -> x.won(), 0);
        granted("cellars(0)", x -> x.cellars(0), 0);
        granted("spent()", x -> x.spent(), 0);
        granted("hidden(0)", x -> x.hidden(0), 0);
        granted("swings(0, 0, 0, false)", x -> x.swings(0, 0, 0, false), 3);
        granted("swings(0, 0, 0, true)", x -> x.swings(0, 0, 0, true), 8);
        granted("lasts(0, 0, false)", x -> x.lasts(0, 0, false), 1);
        granted("wins(0, 0, 0)", x -> x.wins(0, 0, 0), 0);
        granted("says(1, true, true, false)", x -> x.says(1, true, true, false), 0);
    }

    private static void acts() {
        granted("brick(1)", x -> x.brick(1) ? 1 : 0, 1);
        granted("hire(3, 1)", x -> x.hire(3, 1), 0);
        for (int number = 1; number <= 5; number++) {
            ThirdWitness x = inTrouble(number);
            again(x, number, x.brick(1), "brick(1)");
            again(x, number, x.open(1), "open(1)");
            again(x, number, x.hire(3, 1) == 0, "hire(3, 1)");
            again(x, number, x.dismiss(3), "dismiss(3)");
            again(x, number, x.undo(), "undo()");
            if (number != 3) {
                again(x, number, x.image() == 0, "image()");
            }
            again(x, number, x.back(0), "back(0)");
        }
    }

    /** Behind a call that was granted: 0; then a trouble again, for the next one (behind 6 nothing could be undone). */
    private static void again(ThirdWitness x, int number, boolean made, String call) {
        Check.yes(call, made);
        Check.due("trouble behind " + call + " behind " + number, x.trouble(), 0);
        Check.due("where() behind " + call, x.where(), -1);
        switch (number) {
            case 1:
                x.into(9);
                break;
            case 2:
                x.hidden(60);
                break;
            case 3:
                x.image();
                break;
            case 4:
                x.town(0);
                break;
            default:
                x.dismiss(0);
        }
        Check.due("trouble()", x.trouble(), number);
    }

    private static void town() {
        for (int number = 1; number <= 6; number++) {
            ThirdWitness x = inTrouble(number);
            Check.due("town", Check.tell(x, "town boys 1;place c"), 1);
            Check.due("trouble behind town", x.trouble(), 0);
            Check.due("where() behind town", x.where(), -1);
        }
        ThirdWitness x = inTrouble(4);
        Check.feed(x, "town boys 1;place c");
        Check.due("where() behind feed", x.where(), 11);
        Check.refused(x, "town(21)", x.town(21), 2);
        Check.due("where() behind one by 2", x.where(), -1);
        Check.due("fault() is that of the latest one not by 2", x.fault(), 6);
    }

    private static void eachNumber() {
        refused("ends(2)", x -> x.ends(2), -1, 1);
        refused("eyes(0, 60)", x -> x.eyes(0, 60), -1, 2);
        refused("says(10)", x -> x.says(10, true, true, true), -100, 2);
        refused("stoppedIf(0, 0)", x -> x.stoppedIf(0, 0), -1, 5);
        refused("hire(0, 0)", x -> x.hire(0, 0), -1, 5);
        refused("dismiss(3)", x -> x.dismiss(3) ? 1 : 0, 0, 5);
        refused("open(0)", x -> x.open(0) ? 1 : 0, 0, 5);
        refused("undo()", x -> x.undo() ? 1 : 0, 0, 6);
        refused("back(3)", x -> x.back(3) ? 1 : 0, 0, 1);
        refused("back(-1)", x -> x.back(-1) ? 1 : 0, 0, 1);
        refused("fitAt(2)", x -> x.fitAt(2), -1, 1);
        refused("town(1)", x -> x.town(1), -1, 2);
        refused("town(-1)", x -> x.town(-1), -1, 2);
        ThirdWitness x = inTrouble(3);
        Check.denied(x, "undo()", x.undo(), 6);
        Check.refused(x, "image()", x.image(), 3);
        ThirdWitness y = Check.town(TEXT);
        Check.yes("brick(0)", y.brick(0));
        Check.denied(y, "undo() twice", y.undo() && y.undo(), 6);
        Check.yes("brick(0)", y.brick(0));
        Check.denied(y, "brick(0)", y.brick(0), 5);
    }
}
