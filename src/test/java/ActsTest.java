/** Promises 48 to 55: bricking up, opening, hiring, dismissing, undoing, images. */
public final class ActsTest {
    private static final String TEXT = "town boys 0;place a;place b;place c;sees a b;sees b c;sees c a;"
        + "person x plain at a wit 4;person y plain at b wit 1;person z babe at c wit 1;hire y for 7;hire z for 20;"
        + "goes y c at 9;quarrel q x y at a from 0 needs 99";

    private ActsTest() {
    }

    public static void main(String[] args) {
        promise48Brick();
        promise49Open();
        promise50Hire();
        promise51Dismiss();
        promise52Spent();
        promise53Undo();
        promise53Sixteen();
        promise53Nothing();
        promise54Image();
        promise55Back();
        noTown();
        Check.close();
    }

    private static void allowed(ThirdWitness x, String call, boolean got) {
        Check.yes(call, got);
        Check.due("trouble behind " + call, x.trouble(), 0);
    }

    private static void promise48Brick() {
        ThirdWitness x = Check.town(TEXT);
        allowed(x, "brick(1)", x.brick(1));
        Check.due("into(1)", x.into(1), 2);
        Check.due("into(0)", x.into(0), 3);
        Check.denied(x, "brick(1)", x.brick(1), 5);
        allowed(x, "brick(2)", x.brick(2));
        Check.due("into(2)", x.into(2), 4);
        Check.denied(x, "brick(3)", x.brick(3), 1);
        Check.denied(x, "brick(-1)", x.brick(-1), 1);
        Check.denied(x, "brick(32)", x.brick(32), 1);
        Check.due("size(9)", x.size(9), 2);
    }

    private static void promise49Open() {
        ThirdWitness x = Check.town(TEXT);
        Check.denied(x, "open(0)", x.open(0), 5);
        allowed(x, "brick(0)", x.brick(0));
        allowed(x, "brick(1)", x.brick(1));
        allowed(x, "open(0)", x.open(0));
        Check.due("into(0)", x.into(0), 3);
        Check.due("into(1)", x.into(1), 2);
        Check.denied(x, "open(0)", x.open(0), 5);
        Check.denied(x, "open(3)", x.open(3), 1);
        Check.denied(x, "open(-1)", x.open(-1), 1);
        Check.due("size(9)", x.size(9), 3);
    }

    private static void promise50Hire() {
        ThirdWitness x = Check.town(TEXT);
        Check.granted(x, "hire(1, 0)", x.hire(1, 0), 7);
        Check.due("at(1, 9)", x.at(1, 9), 0);
        Check.refused(x, "hire(1, 0), where he was sent", x.hire(1, 0), 5);
        Check.granted(x, "hire(1, 2)", x.hire(1, 2), 7);
        Check.due("at(1, 0)", x.at(1, 0), 2);
        Check.granted(x, "hire(2, 2), where he is anyway", x.hire(2, 2), 20);
        Check.refused(x, "hire(2, 2)", x.hire(2, 2), 5);
        Check.refused(x, "hire(0, 0): can't be hired", x.hire(0, 0), 5);
        Check.refused(x, "hire(0, 3)", x.hire(0, 3), 1);
        Check.refused(x, "hire(1, 3)", x.hire(1, 3), 1);
        Check.refused(x, "hire(1, -1)", x.hire(1, -1), 1);
        Check.refused(x, "hire(3, 0)", x.hire(3, 0), 1);
        Check.refused(x, "hire(-1, 0)", x.hire(-1, 0), 1);
        Check.due("size(9)", x.size(9), 3);
    }

    private static void promise51Dismiss() {
        ThirdWitness x = Check.town(TEXT);
        Check.denied(x, "dismiss(1)", x.dismiss(1), 5);
        Check.denied(x, "dismiss(0)", x.dismiss(0), 5);
        Check.due("hire(1, 0)", x.hire(1, 0), 7);
        Check.due("hire(2, 0)", x.hire(2, 0), 20);
        allowed(x, "dismiss(1)", x.dismiss(1));
        Check.due("at(1, 9)", x.at(1, 9), 2);
        Check.due("at(2, 9)", x.at(2, 9), 0);
        Check.due("person(1, 4)", x.person(1, 4), -2);
        Check.denied(x, "dismiss(1)", x.dismiss(1), 5);
        Check.denied(x, "dismiss(3)", x.dismiss(3), 1);
        Check.denied(x, "dismiss(-1)", x.dismiss(-1), 1);
        Check.due("hire(1, 0) again", x.hire(1, 0), 7);
        Check.due("size(9)", x.size(9), 4);
    }

    private static void promise52Spent() {
        ThirdWitness x = Check.town(TEXT);
        Check.granted(x, "spent()", x.spent(), 0);
        x.hire(1, 0);
        Check.granted(x, "spent()", x.spent(), 7);
        x.hire(1, 0);
        Check.granted(x, "spent() behind a refusal", x.spent(), 7);
        x.hire(1, 1);
        Check.granted(x, "spent(), elsewhere again", x.spent(), 14);
        x.hire(2, 1);
        Check.granted(x, "spent()", x.spent(), 34);
        x.dismiss(1);
        Check.granted(x, "spent() stays behind dismiss", x.spent(), 34);
        x.hire(1, 1);
        Check.granted(x, "spent()", x.spent(), 41);
        x.undo();
        Check.granted(x, "spent() undone", x.spent(), 34);
    }

    private static void promise53Undo() {
        ThirdWitness x = Check.town(TEXT);
        x.brick(0);
        x.hire(1, 0);
        x.hire(1, 2);
        x.open(0);
        x.dismiss(1);
        Check.due("size(9)", x.size(9), 5);
        allowed(x, "undo() of dismiss", x.undo());
        Check.due("person(1, 4)", x.person(1, 4), 2);
        allowed(x, "undo() of open", x.undo());
        Check.due("sight(0, 2)", x.sight(0, 2), 1);
        allowed(x, "undo() of hire elsewhere", x.undo());
        Check.due("person(1, 4)", x.person(1, 4), 0);
        Check.due("spent()", x.spent(), 7);
        allowed(x, "undo() of hire", x.undo());
        Check.due("person(1, 4)", x.person(1, 4), -2);
        Check.due("spent()", x.spent(), 0);
        Check.due("sight(0, 2)", x.sight(0, 2), 1);
        allowed(x, "undo() of brick", x.undo());
        Check.due("sight(0, 2)", x.sight(0, 2), 0);
        Check.denied(x, "undo() of nothing", x.undo(), 6);
        x.brick(1);
        x.undo();
        Check.denied(x, "undo() isn't undone", x.undo(), 6);
        Check.due("sight(1, 2)", x.sight(1, 2), 0);
    }

    private static void promise53Sixteen() {
        ThirdWitness x = Check.town(TEXT);
        // 7 shillings each, by turns to a and b: after n of them 7n spent
        for (int n = 1; n <= 20; n++) {
            Check.due("hire", x.hire(1, n % 2), 7);
            Check.due("size(9)", x.size(9), Math.min(n, 16));
        }
        for (int n = 19; n >= 4; n--) {
            allowed(x, "undo()", x.undo());
            Check.due("spent()", x.spent(), 7 * n);
            Check.due("person(1, 4)", x.person(1, 4), n % 2);
            Check.due("size(9)", x.size(9), n - 4);
        }
        Check.denied(x, "undo() of the seventeenth", x.undo(), 6);
        Check.due("spent()", x.spent(), 28);
    }

    private static void promise53Nothing() {
        ThirdWitness x = Check.town(TEXT);
        Check.denied(x, "undo()", x.undo(), 6);
        x.open(0);
        x.brick(9);
        x.hire(0, 0);
        x.dismiss(1);
        x.bricks(0);
        x.stoppers(0);
        x.bestHire();
        x.image();
        Check.denied(x, "undo() of no acts", x.undo(), 6);
        Check.due("size(9)", x.size(9), 0);
    }

    private static void promise54Image() {
        ThirdWitness x = Check.town(TEXT);
        Check.granted(x, "image()", x.image(), 0);
        x.brick(0);
        Check.granted(x, "image()", x.image(), 1);
        Check.due("size(10)", x.size(10), 2);
        Check.granted(x, "image() of the same", x.image(), 2);
        Check.refused(x, "image() of no room", x.image(), 3);
        Check.due("size(10)", x.size(10), 3);
        Check.due("size(9)", x.size(9), 1);
        allowed(x, "back(0)", x.back(0));
        Check.refused(x, "image(): all stay", x.image(), 3);
    }

    private static void promise55Back() {
        ThirdWitness x = Check.town(TEXT);
        Check.denied(x, "back(0)", x.back(0), 1);
        x.brick(0);
        x.hire(1, 2);
        x.image();
        x.open(0);
        x.brick(1);
        x.hire(2, 0);
        x.dismiss(1);
        x.image();
        allowed(x, "back(0)", x.back(0));
        Check.due("sight(0, 2)", x.sight(0, 2), 1);
        Check.due("sight(1, 2)", x.sight(1, 2), 0);
        Check.due("person(1, 4)", x.person(1, 4), 2);
        Check.due("person(2, 4)", x.person(2, 4), -2);
        Check.due("spent()", x.spent(), 7);
        Check.due("size(9)", x.size(9), 0);
        Check.denied(x, "undo() behind back", x.undo(), 6);
        x.brick(2);
        Check.due("size(10)", x.size(10), 2);
        allowed(x, "back(1)", x.back(1));
        Check.due("sight(0, 2)", x.sight(0, 2), 0);
        Check.due("sight(1, 2)", x.sight(1, 2), 1);
        Check.due("sight(2, 2)", x.sight(2, 2), 0);
        Check.due("person(1, 4)", x.person(1, 4), -2);
        Check.due("person(2, 4)", x.person(2, 4), 0);
        Check.due("spent()", x.spent(), 27);
        Check.denied(x, "back(2)", x.back(2), 1);
        Check.denied(x, "back(-1)", x.back(-1), 1);
        x.open(1);
        Check.denied(x, "back(2), with something to undo", x.back(2), 1);
        Check.due("size(9) behind a refusal", x.size(9), 1);
        allowed(x, "undo() of what came behind", x.undo());
        Check.due("sight(1, 2)", x.sight(1, 2), 1);
    }

    private static void noTown() {
        ThirdWitness x = new ThirdWitness();
        Check.denied(x, "brick", x.brick(0), 1);
        Check.denied(x, "open", x.open(0), 1);
        Check.refused(x, "hire", x.hire(0, 0), 1);
        Check.denied(x, "dismiss", x.dismiss(0), 1);
        Check.refused(x, "spent", x.spent(), 1);
        Check.denied(x, "undo", x.undo(), 6);
        Check.refused(x, "image", x.image(), 1);
        Check.denied(x, "back", x.back(0), 1);
    }
}
