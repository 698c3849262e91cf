import java.util.Arrays;

/** Promises 48 to 57 at their edges: no act, one, fifteen, sixteen and more; no image, three, a fourth; each sight, each one. */
public final class ActsEdgeTest {
    private ActsEdgeTest() {
    }

    public static void main(String[] args) {
        for (int acts = 0; acts <= 40; acts++) {
            undone(acts);
        }
        undoneEachAct();
        keptBehindUndo();
        threeImages();
        imagesOfAll();
        backForgets();
        spentOfAll();
        sizes();
        Check.close();
    }

    /** The i-th of many acts: each of the four sorts, none refused when they are done in their order. */
    private static void act(ThirdWitness x, int i) {
        int turn = i / 4 % 6;
        switch (i % 4) {
            case 0:
                Check.yes("brick", x.brick(turn));
                break;
            case 1:
                Check.due("hire", x.hire(turn, 5 - turn), turn + 1);
                break;
            case 2:
                Check.yes("open", x.open(turn));
                break;
            default:
                Check.yes("dismiss", x.dismiss(turn));
        }
    }

    /** As it is behind so many acts, by all that is seen but how much can be undone. */
    private static long[] behind(int acts) {
        ThirdWitness x = Check.town(Calls.FULL);
        for (int i = 0; i < acts; i++) {
            act(x, i);
        }
        return withoutUndo(x);
    }

    private static long[] withoutUndo(ThirdWitness x) {
        long[] all = Calls.dump(x);
        all[9] = 0;
        return all;
    }

    /** Of so many acts the latest sixteen are undone, one by one, the others never. */
    private static void undone(int acts) {
        ThirdWitness x = Check.town(Calls.FULL);
        for (int i = 0; i < acts; i++) {
            Check.due("size(9)", x.size(9), Math.min(i, 16));
            act(x, i);
        }
        int kept = Math.min(acts, 16);
        for (int i = 0; i < kept; i++) {
            Check.due("size(9)", x.size(9), kept - i);
            Check.yes("undo()", x.undo());
            Check.due("trouble()", x.trouble(), 0);
        }
        Check.due("size(9)", x.size(9), 0);
        Check.denied(x, "undo() of the one ahead of " + kept, x.undo(), 6);
        Check.denied(x, "undo() again", x.undo(), 6);
        Check.yes("all is as behind " + (acts - kept), Arrays.equals(withoutUndo(x), behind(acts - kept)));
    }

    private static void undoneEachAct() {
        for (int acts = 1; acts <= 24; acts++) {
            ThirdWitness x = Check.town(Calls.FULL);
            for (int i = 0; i < acts; i++) {
                act(x, i);
            }
            Check.yes("undo()", x.undo());
            Check.yes("all is as behind " + (acts - 1), Arrays.equals(withoutUndo(x), behind(acts - 1)));
        }
        // hired elsewhere: where he was sent ahead of it; hired, dismissed: his own ways
        ThirdWitness x = Check.town(Calls.FULL);
        Check.due("hire(0, 5)", x.hire(0, 5), 1);
        Check.due("hire(0, 0)", x.hire(0, 0), 1);
        Check.yes("dismiss(0)", x.dismiss(0));
        int[] sent = {0, 5, -2};
        int[] spent = {2, 1, 0};
        for (int i = 0; i < 3; i++) {
            Check.yes("undo()", x.undo());
            Check.granted(x, "person(0, 4)", x.person(0, 4), sent[i]);
            Check.granted(x, "spent()", x.spent(), spent[i]);
        }
    }

    /** Behind some undone ones sixteen are kept again. */
    private static void keptBehindUndo() {
        ThirdWitness x = Check.town(Calls.FULL);
        for (int i = 0; i < 20; i++) {
            Check.due("hire", x.hire(1, i % 2), 2);
        }
        for (int i = 0; i < 5; i++) {
            Check.yes("undo()", x.undo());
        }
        Check.due("size(9)", x.size(9), 11);
        Check.granted(x, "spent()", x.spent(), 30);
        for (int i = 1; i <= 6; i++) {
            Check.due("hire", x.hire(1, 2 + i % 2), 2);
            Check.due("size(9)", x.size(9), Math.min(11 + i, 16));
        }
        for (int i = 1; i <= 16; i++) {
            Check.yes("undo()", x.undo());
            Check.granted(x, "spent()", x.spent(), 42 - 2 * i);
        }
        Check.denied(x, "undo()", x.undo(), 6);
        Check.granted(x, "spent()", x.spent(), 10);
    }

    private static void threeImages() {
        ThirdWitness x = Check.town(Calls.FULL);
        for (int wrong : new int[] {-1, 0, 1, 2, 3}) {
            Check.denied(x, "back(" + wrong + ") without images", x.back(wrong), 1);
        }
        for (int i = 0; i < 3; i++) {
            Check.due("size(10)", x.size(10), i);
            Check.granted(x, "image()", x.image(), i);
            Check.denied(x, "back(" + (i + 1) + ")", x.back(i + 1), 1);
            Check.due("hire", x.hire(i, 5), i + 1);
            Check.yes("brick", x.brick(7 - i));
        }
        Check.refused(x, "image(), a fourth", x.image(), 3);
        Check.due("size(10)", x.size(10), 3);
        Check.due("size(9) stays behind image()", x.size(9), 6);
        int[] spent = {0, 1, 3};
        for (int turn = 0; turn < 7; turn++) {
            int image = new int[] {2, 0, 1, 2, 2, 1, 0}[turn];
            Check.yes("back(" + image + ")", x.back(image));
            Check.due("trouble()", x.trouble(), 0);
            Check.granted(x, "spent()", x.spent(), spent[image]);
            for (int i = 0; i < 3; i++) {
                Check.granted(x, "person(" + i + ", 4)", x.person(i, 4), i < image ? 5 : -2);
                Check.granted(x, "sight(" + (7 - i) + ", 2)", x.sight(7 - i, 2), i < image ? 1 : 0);
            }
            Check.due("size(10): all images stay", x.size(10), 3);
            Check.denied(x, "undo()", x.undo(), 6);
            Check.refused(x, "image(), a fourth", x.image(), 3);
            // what is done now is nothing to the images
            Check.yes("brick", x.brick(0));
            Check.due("hire", x.hire(5, turn % 6), 6);
        }
        for (int wrong : new int[] {-1, 3, 4, Integer.MAX_VALUE, Integer.MIN_VALUE}) {
            Check.denied(x, "back(" + wrong + ")", x.back(wrong), 1);
        }
        Check.due("size(9) behind refusals", x.size(9), 2);
        Check.yes("undo()", x.undo() && x.undo());
        Check.denied(x, "undo()", x.undo(), 6);
    }

    /** An image of all bricked up and all hired to the last place, and one of nothing done. */
    private static void imagesOfAll() {
        ThirdWitness x = Check.town(Calls.FULL);
        Check.granted(x, "image()", x.image(), 0);
        all(x);
        Check.granted(x, "image()", x.image(), 1);
        Check.yes("back(0)", x.back(0));
        ThirdWitness fresh = Check.town(Calls.FULL);
        Check.due("images", fresh.image() + fresh.image(), 1);
        Check.yes("all is as told", Arrays.equals(Calls.dump(x), Calls.dump(fresh)));
        Check.yes("back(1)", x.back(1));
        ThirdWitness other = Check.town(Calls.FULL);
        Check.due("images", other.image() + other.image(), 1);
        all(other);
        Check.yes("all is as by it", Arrays.equals(withoutUndo(x), withoutUndo(other)));
    }

    private static void all(ThirdWitness x) {
        for (int k = 0; k < 8; k++) {
            Check.yes("brick", x.brick(k));
        }
        for (int p = 0; p < 6; p++) {
            Check.due("hire", x.hire(p, 5), p + 1);
        }
    }

    private static void backForgets() {
        for (int acts = 0; acts <= 17; acts++) {
            ThirdWitness x = Check.town(Calls.FULL);
            Check.granted(x, "image()", x.image(), 0);
            for (int i = 0; i < acts; i++) {
                act(x, i);
            }
            Check.yes("back(0)", x.back(0));
            Check.due("size(9) behind " + acts, x.size(9), 0);
            Check.denied(x, "undo() behind " + acts, x.undo(), 6);
            for (int i = 0; i < 17; i++) {
                act(x, i);
            }
            Check.due("size(9)", x.size(9), 16);
        }
        // an image is no act, and can't be undone
        ThirdWitness x = Check.town(Calls.FULL);
        Check.yes("brick(0)", x.brick(0));
        Check.granted(x, "image()", x.image(), 0);
        Check.yes("undo()", x.undo());
        Check.due("size(10)", x.size(10), 1);
        Check.granted(x, "sight(0, 2)", x.sight(0, 2), 0);
        Check.yes("back(0)", x.back(0));
        Check.granted(x, "sight(0, 2)", x.sight(0, 2), 1);
    }

    private static void spentOfAll() {
        String text = "town boys 0;place a;place b;person p plain at a wit 0;person q plain at a wit 0;person r plain at a wit 0;"
            + "hire p for 20;hire q for 0";
        ThirdWitness x = Check.town(text);
        Check.granted(x, "spent() so far", x.spent(), 0);
        for (int i = 1; i <= 200; i++) {
            Check.granted(x, "hire(0, " + i % 2 + ")", x.hire(0, i % 2), 20);
        }
        Check.granted(x, "spent()", x.spent(), 4000);
        Check.granted(x, "hire(1, 0) for nothing", x.hire(1, 0), 0);
        Check.granted(x, "person(1, 4)", x.person(1, 4), 0);
        Check.refused(x, "hire(1, 0), was sent there for nothing", x.hire(1, 0), 5);
        Check.granted(x, "spent()", x.spent(), 4000);
        Check.refused(x, "hire(2, 0)", x.hire(2, 0), 5);
        Check.refused(x, "hire(2, 2)", x.hire(2, 2), 1);
        Check.refused(x, "hire(3, 0)", x.hire(3, 0), 1);
        Check.yes("dismiss(1)", x.dismiss(1));
        Check.denied(x, "dismiss(1)", x.dismiss(1), 5);
        Check.granted(x, "hire(1, 0) again", x.hire(1, 0), 0);
        ThirdWitness none = Check.town("town boys 0;place a");
        Check.granted(none, "spent() of nobody", none.spent(), 0);
    }

    private static void sizes() {
        ThirdWitness none = new ThirdWitness();
        ThirdWitness full = Check.town(Calls.FULL);
        int[] due = {50, 6, 8, 6, 4, 3, 6, 4, 1, 0, 0, 0};
        for (int what = 0; what <= 11; what++) {
            Check.due("size(" + what + ") of no town", none.size(what), 0);
            Check.due("size(" + what + ")", full.size(what), due[what]);
        }
        for (int what : new int[] {-1, 12, 13, Integer.MAX_VALUE, Integer.MIN_VALUE}) {
            Check.due("size(" + what + ") of no town", none.size(what), -1);
            Check.due("size(" + what + ")", full.size(what), -1);
        }
        // the tape has bytes without a town, the town no acts
        none.feed(1, 2, 3, 4, 5);
        Check.due("size(11)", none.size(11), 20);
        Check.due("size(9)", none.size(9), 0);
        Check.due("town", none.town(20), -1);
        Check.due("size(11)", none.size(11), 0);
        Check.due("size(1)", none.size(1), 0);
        Check.refused(none, "won(): a faulty town is none", none.won(), 1);
    }
}
