/** Promises 1 to 5: a new object, the tape, and the text of a town with its faults. */
public final class TownTest {
    private static final String HEAD = "town boys 7;place a;place b;person x plain at a wit 3;"
        + "person y deaf at b wit 0;quarrel q x y at a from 0 needs 1";

    private TownTest() {
    }

    public static void main(String[] args) {
        promise1NewObject();
        promise2Feed();
        promise3Town();
        promise3TownStays();
        promise4FaultsOfForm();
        Check.close();
    }

    private static void promise1NewObject() {
        ThirdWitness x = new ThirdWitness();
        for (int what = 0; what <= 11; what++) {
            Check.due("size(" + what + ")", x.size(what), 0);
        }
        Check.due("trouble()", x.trouble(), 0);
        Check.due("fault()", x.fault(), 0);
        Check.due("where()", x.where(), -1);
        Check.refused(x, "won()", x.won(), 1);
        Check.refused(x, "at(0, 0)", x.at(0, 0), 1);
    }

    private static void promise2Feed() {
        ThirdWitness x = new ThirdWitness();
        for (int i = 1; i <= 45; i++) {
            Check.due("feed", x.feed(0x20202020, 0x20202020, 0x20202020, 0x20202020, 0x20202020), 20 * i);
        }
        Check.due("feed beyond 900", x.feed(0, 0, 0, 0, 0), -1);
        Check.due("size(11)", x.size(11), 900);
        Check.due("trouble(), of which feed tells no number", x.trouble(), 0);
    }

    private static void promise3Town() {
        ThirdWitness x = new ThirdWitness();
        Check.due("town", Check.tell(x, HEAD), 2);
        Check.due("trouble()", x.trouble(), 0);
        Check.due("size(11)", x.size(11), 0);
    }

    private static void promise3TownStays() {
        ThirdWitness x = Check.town(HEAD);
        Check.refused(x, "town(1)", x.town(1), 2);
        Check.refused(x, "town(-1)", x.town(-1), 2);
    }

    private static void promise4FaultsOfForm() {
        ThirdWitness x = new ThirdWitness();
        Check.refused(x, "town(0)", x.town(0), 4);
        Check.due("fault()", x.fault(), 1);
        Check.due("where()", x.where(), 0);
    }
}
