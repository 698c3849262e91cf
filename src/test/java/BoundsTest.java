import java.util.Arrays;

/**
 * The least and the greatest of each argument, and those just outside: each call that may be refused by 1 or 2,
 * in a full town, in ones with less, in the least one, and without a town. What is refused leaves all as it was.
 */
public final class BoundsTest {
    private static final String TWO = "town boys 0;place a;place b;sees a b;person x plain at a wit 9;person y plain at b wit 0;"
        + "quarrel q x y at a from 0 needs 99;unsure x 8;hire x for 0";
    private static final String LEAST = "town boys 0;place a";

    private BoundsTest() {
    }

    public static void main(String[] args) {
        for (Calls.Call call : Calls.ALL) {
            bounds(call, Calls.FULL, 3);
            bounds(call, Calls.FULL, 2);
            bounds(call, TWO, 1);
            bounds(call, LEAST, 0);
            withoutTown(call);
        }
        counts();
        refusedLeavesAll();
        looksLeaveAll();
        Check.close();
    }

    /** A town with images of it, and with some acts to be undone. */
    private static ThirdWitness make(String text, int images) {
        ThirdWitness x = Check.town(text);
        for (int i = 0; i < images; i++) {
            Check.due("image()", x.image(), i);
        }
        return x;
    }

    private static void bounds(Calls.Call call, String text, int images) {
        for (int at = 0; at < call.sorts.length; at++) {
            int bound = call.sorts[at].bound(make(text, images));
            int[] values = {Integer.MIN_VALUE, -1, 0, bound - 1, bound, bound + 1, Integer.MAX_VALUE};
            for (int value : values) {
                one(call, text, images, at, value);
            }
        }
    }

    private static void one(Calls.Call call, String text, int images, int at, int value) {
        int[] with = new int[call.sorts.length];
        with[at] = value;
        look(call, text, images, with);
        // with the others at their greatest, and too large by one
        for (int more = 0; more < 2; more++) {
            for (int k = 0; k < with.length; k++) {
                with[k] = k == at ? value : call.sorts[k].bound(make(text, images)) - 1 + more;
            }
            look(call, text, images, with);
        }
    }

    /** By 1 if one of those is none such, else by 2 if a number is too small or too large, else by neither. */
    private static void look(Calls.Call call, String text, int images, int[] with) {
        ThirdWitness x = make(text, images);
        int due = 0;
        for (int k = 0; k < with.length; k++) {
            boolean good = with[k] >= 0 && with[k] < call.sorts[k].bound(x);
            if (!good && due != 1) {
                due = call.sorts[k].trouble;
            }
        }
        String told = call.told(with) + " of " + text;
        long got = call.answer.of(x, with);
        int trouble = x.trouble();
        if (due != 0) {
            Check.due(told, got, call.none);
            Check.due("trouble behind " + told, trouble, due);
            Check.due("where() behind " + told, x.where(), -1);
        } else {
            Check.yes("trouble " + trouble + " behind " + told, trouble == 0 || trouble == 5);
            Check.due("is refused: " + told, got == call.none ? 1 : 0, trouble == 5 ? 1 : 0);
        }
    }

    private static void withoutTown(Calls.Call call) {
        for (int value : new int[] {Integer.MIN_VALUE, -1, 0, 1, 60, Integer.MAX_VALUE}) {
            ThirdWitness x = new ThirdWitness();
            Check.denied(x, "undo()", x.undo(), 6);
            int[] with = new int[call.sorts.length];
            Arrays.fill(with, value);
            Check.due(call.told(with) + " without a town", call.answer.of(x, with), call.none);
            Check.due("trouble behind " + call.told(with) + " without a town", x.trouble(), 1);
        }
    }

    /** The full town has as much of all as there may be, so the bounds looked at are the document's. */
    private static void counts() {
        ThirdWitness x = make(Calls.FULL, 3);
        int[] due = {50, 6, 8, 6, 4, 3, 6, 4, 1, 0, 3, 0};
        for (int what = 0; what < due.length; what++) {
            Check.due("size(" + what + ")", x.size(what), due[what]);
        }
        Check.due("fits()", x.fits(), 16);
    }

    private static void refusedLeavesAll() {
        long[] due = Calls.dump(acted());
        for (Calls.Call call : Calls.ALL) {
            for (int at = 0; at < call.sorts.length; at++) {
                for (int value : new int[] {-1, 99999}) {
                    int[] with = new int[call.sorts.length];
                    with[at] = value;
                    ThirdWitness x = acted();
                    Check.due(call.told(with), call.answer.of(x, with), call.none);
                    Check.yes("all stays behind " + call.told(with), Arrays.equals(Calls.dump(x), due));
                }
            }
        }
        ThirdWitness x = acted();
        Check.refused(x, "town(-1)", x.town(-1), 2);
        Check.refused(x, "town(21)", x.town(21), 2);
        Check.refused(x, "hire(5, 0), where he was sent", x.hire(5, 0), 5);
        Check.denied(x, "dismiss(1)", x.dismiss(1), 5);
        Check.denied(x, "brick(7)", x.brick(7), 5);
        Check.denied(x, "open(1)", x.open(1), 5);
        Check.throwsNoSuchElement("led(9)", () -> x.led(9) > 0);
        Check.yes("all stays behind those", Arrays.equals(Calls.dump(x), due));
        ThirdWitness full = acted();
        Check.due("image()", full.image(), 2);
        long[] ahead = Calls.dump(full);
        ThirdWitness y = acted();
        Check.due("image()", y.image(), 2);
        Check.refused(y, "image() of no room", y.image(), 3);
        Check.yes("all stays behind image()", Arrays.equals(Calls.dump(y), ahead));
    }

    /** Calls that only look leave all as it is, whatever else was looked at ahead of them. */
    private static void looksLeaveAll() {
        ThirdWitness much = acted();
        long[] dump = Calls.dump(much);
        Check.yes("all once more", Arrays.equals(Calls.dump(acted()), dump));
        int at = 12;
        for (Calls.Call call : Calls.LOOKS) {
            for (int i = 0; i < Calls.rounds(call); i++) {
                int[] with = Calls.arguments(call, i);
                ThirdWitness x = acted();
                String told = call.told(with);
                Check.due(told + " first of all", call.answer.of(x, with), dump[at]);
                Check.due("trouble behind " + told, x.trouble(), dump[at + 1]);
                Check.due(told + " again", call.answer.of(x, with), dump[at]);
                at += 2;
            }
        }
        Check.due("answers looked at", at, dump.length);
        Check.yes("size(9)", much.undo() && much.undo() && much.undo() && much.undo() && !much.undo());
    }

    private static ThirdWitness acted() {
        ThirdWitness x = make(Calls.FULL, 2);
        Check.yes("brick(7)", x.brick(7));
        Check.yes("brick(0)", x.brick(0));
        Check.due("hire(5, 0)", x.hire(5, 0), 6);
        Check.due("hire(0, 5)", x.hire(0, 5), 1);
        x.feed(1, 2, 3, 4, 5);
        return x;
    }
}
