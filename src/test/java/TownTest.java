/** Promises 1 to 5: a new object, the tape, and the text of a town with its faults. */
public final class TownTest {
    private static final String HEAD = "town boys 7;place a;place b;person x plain at a wit 3;"
        + "person y deaf at b wit 0;quarrel q x y at a from 0 needs 1";

    private TownTest() {
    }

    public static void main(String[] args) {
        promise1NewObject();
        promise2Feed();
        promise2Bytes();
        promise3Town();
        promise3Numbers();
        promise3TownStays();
        promise3NewTownForgets();
        promise3Tokens();
        promise4Form();
        promise4FormInLines();
        promise4Names();
        promise4Again();
        promise4Wholes();
        promise4Many();
        promise4Lacks();
        promise4Early();
        promise4FirstFromTheLeft();
        promise4LatestTown();
        promise5Where();
        Check.close();
    }

    /** A text's fault and its place; the town that stood ahead stays. */
    private static void fault(String text, int number, int place) {
        ThirdWitness x = Check.town(HEAD);
        Check.due("town: " + text, Check.tell(x, text), -1);
        Check.due("trouble of: " + text, x.trouble(), 4);
        Check.due("fault of: " + text, x.fault(), number);
        Check.due("where of: " + text, x.where(), place);
        Check.due("size(0) behind: " + text, x.size(0), 7);
        Check.due("size(11) behind: " + text, x.size(11), 0);
    }

    /** The fault of what stands behind HEAD and a ;, by its place there. */
    private static void faultBehind(String more, int number, int place) {
        fault(HEAD + ";" + more, number, HEAD.length() + 1 + place);
    }

    private static void good(String text) {
        ThirdWitness x = new ThirdWitness();
        Check.due("good? " + text, Check.tell(x, text) > 0 ? 1 : 0, 1);
        Check.due("fault of: " + text, x.fault(), 0);
        Check.due("trouble of: " + text, x.trouble(), 0);
        Check.due("where of: " + text, x.where(), -1);
    }

    private static void promise1NewObject() {
        ThirdWitness x = new ThirdWitness();
        for (int what = 0; what <= 11; what++) {
            Check.due("size(" + what + ")", x.size(what), 0);
        }
        Check.due("trouble()", x.trouble(), 0);
        Check.due("fault()", x.fault(), 0);
        Check.due("where()", x.where(), -1);
        Check.refused(x, "won()", x.won(), 1);
        Check.refused(x, "at(0, 0)", x.at(0, 0), 1);
        Check.refused(x, "image()", x.image(), 1);
    }

    private static void promise2Feed() {
        ThirdWitness x = new ThirdWitness();
        for (int i = 1; i <= 45; i++) {
            Check.due("feed", x.feed(0x20202020, 0x20202020, 0x20202020, 0x20202020, 0x20202020), 20 * i);
        }
        Check.due("feed beyond 900", x.feed(0, 0, 0, 0, 0), -1);
        Check.due("size(11)", x.size(11), 900);
        Check.due("trouble(), of which feed tells no number", x.trouble(), 0);
        Check.refused(x, "town(901)", x.town(901), 2);
        Check.due("feed once more", x.feed(0, 0, 0, 0, 0), -1);
        Check.due("trouble() is that of town", x.trouble(), 2);
        Check.refused(x, "town(900)", x.town(900), 4);
        Check.due("the end of blanks", x.where(), 900);
        Check.due("feed into an empty tape", x.feed(0, 0, 0, 0, 0), 20);
    }

    private static void promise2Bytes() {
        ThirdWitness x = new ThirdWitness();
        // town boys 5;place a: of each number the highest byte first
        x.feed(0x746f776e, 0x20626f79, 0x7320353b, 0x706c6163, 0x65206120);
        Check.due("town(19)", x.town(19), 1);
        Check.due("size(0)", x.size(0), 5);
        // the sign bit is a byte's bit like others
        x.feed(0xffffffff, -1, 0x80000000, 0, 0);
        Check.refused(x, "town(1)", x.town(1), 4);
        Check.due("where()", x.where(), 0);
        Check.due("fault()", x.fault(), 1);
    }

    private static void promise3Town() {
        ThirdWitness x = new ThirdWitness();
        Check.due("town", Check.tell(x, HEAD), 2);
        Check.due("trouble()", x.trouble(), 0);
        Check.due("size(11)", x.size(11), 0);
        Check.due("town of three", Check.tell(x, "town boys 0;place a;place b;place c"), 3);
        Check.due("size(3)", x.size(3), 0);
        Check.due("size(5)", x.size(5), 0);
        good("town boys 0;place a");
        good("town boys 100;place a");
    }

    private static void promise3Numbers() {
        ThirdWitness x = new ThirdWitness();
        Check.feed(x, "town boys 0;place a;place b");
        Check.refused(x, "town(-1)", x.town(-1), 2);
        Check.refused(x, "town(41)", x.town(41), 2);
        Check.refused(x, "town(MAX)", x.town(Integer.MAX_VALUE), 2);
        Check.refused(x, "town(MIN)", x.town(Integer.MIN_VALUE), 2);
        Check.due("the tape stays", x.size(11), 40);
        Check.due("town(19) reads the first bytes alone", x.town(19), 1);
        Check.refused(x, "town(1) of an empty tape", x.town(1), 2);
        Check.refused(x, "town(0): a text without a line", x.town(0), 4);
        Check.due("fault()", x.fault(), 1);
        Check.due("where()", x.where(), 0);
    }

    private static void promise3TownStays() {
        ThirdWitness x = Check.town(HEAD + ";sees a b;hire x for 3");
        Check.yes("brick(0)", x.brick(0));
        Check.due("hire(0, 1)", x.hire(0, 1), 3);
        Check.due("image()", x.image(), 0);
        Check.due("a faulty town", Check.tell(x, "town boys 1;place c;place c"), -1);
        Check.due("size(0)", x.size(0), 7);
        Check.due("size(1)", x.size(1), 2);
        Check.due("size(9)", x.size(9), 2);
        Check.due("size(10)", x.size(10), 1);
        Check.due("spent()", x.spent(), 3);
        Check.due("sight(0, 2)", x.sight(0, 2), 1);
        Check.yes("undo()", x.undo());
        Check.due("spent()", x.spent(), 0);
    }

    private static void promise3NewTownForgets() {
        ThirdWitness x = Check.town(HEAD + ";sees a b;hire x for 3;unsure x 4;ended q at 0;goes y a at 3");
        Check.yes("brick(0)", x.brick(0));
        Check.due("hire(0, 1)", x.hire(0, 1), 3);
        Check.due("image()", x.image(), 0);
        Check.due("a town without that", Check.tell(x, HEAD + ";sees a b"), 2);
        Check.denied(x, "undo()", x.undo(), 6);
        Check.denied(x, "back(0)", x.back(0), 1);
        Check.due("spent()", x.spent(), 0);
        Check.due("sight(0, 2)", x.sight(0, 2), 0);
        Check.due("person(0, 3)", x.person(0, 3), -2);
        Check.due("person(0, 4)", x.person(0, 4), -2);
        Check.due("at(1, 9)", x.at(1, 9), 1);
        for (int what = 6; what <= 10; what++) {
            Check.due("size(" + what + ")", x.size(what), 0);
        }
        Check.due("judge()", x.judge(), -2);
        Check.due("ask()", x.ask(), -2);
    }

    private static void promise3Tokens() {
        good("  town   boys 0 ;  place a   ");
        good("town boys 0;place at;place boys;place plain;person wit deaf at at wit1");
        good("town boys 007;place abcdefgh");
        good("town boys 0;place a;person for plain at a wit 0;person needs babe at a wit 9;"
            + "quarrel from for needs at a from 59 needs 99;unsure for 9;ended from at 59;hire for for 20");
        // a whole may stand right behind a word
        ThirdWitness x = Check.town("town boys5;place a");
        Check.due("size(0)", x.size(0), 5);
    }

    private static void promise4Form() {
        fault("", 1, 0);
        fault("   ", 1, 3);
        fault(";", 1, 0);
        fault("12", 1, 0);
        fault("towns boys 0", 1, 0);
        fault("Town boys 0", 1, 0);
        fault("town", 1, 4);
        fault("town  ", 1, 6);
        fault("town boy 0", 1, 5);
        fault("town boys x", 1, 10);
        fault("town boys 1000", 1, 10);
        fault("town boys 0000", 1, 10);
        fault("town boys 0 place a", 1, 12);
        fault("town boys 0;", 1, 12);
        fault("town boys 0;;place a", 1, 12);
        fault("town boys 0;place a;", 1, 20);
        fault("town boys 0;place a; ", 1, 21);
        fault("town boys 0;place a b", 1, 20);
        fault("town boys 0;place abcdefghi", 1, 18);
        fault("town boys 0;place 1", 1, 18);
        fault("town boys 0;place a-b", 1, 19);
        fault("town boys 0;place a\u00e9", 1, 19);
        fault("town boys 0;place a\t", 1, 19);
        fault("town boys 0;place a\n;place b", 1, 19);
        fault("town boys 0;place aB", 1, 19);
        fault("town boys 0;place a1", 1, 19);
        fault("town boys 0;place a\u0000", 1, 19);
        fault("town boys 0;place `", 1, 18);
        fault("town boys 0;place {", 1, 18);
        fault("town boys /", 1, 10);
        fault("town boys :", 1, 10);
        // the first of a word too long, though a fault of another kind would be behind it
        fault("town boys 0;placeplace a", 1, 12);
        fault("town boys 0;place town", 1, 18);
    }

    private static void promise4FormInLines() {
        faultBehind("sees a", 1, 6);
        faultBehind("sees 1 a", 1, 5);
        faultBehind("sees a place", 1, 7);
        faultBehind("sees a b c", 1, 9);
        faultBehind("person", 1, 6);
        faultBehind("person z", 1, 8);
        faultBehind("person z tall", 1, 9);
        faultBehind("person z person", 1, 9);
        faultBehind("person z babe in a", 1, 14);
        faultBehind("person z babe at 1", 1, 17);
        faultBehind("person z babe at a 1", 1, 19);
        faultBehind("person z babe at a wit", 1, 22);
        faultBehind("person z babe at a wit b", 1, 23);
        faultBehind("goes x a 3", 1, 9);
        faultBehind("goes x a at", 1, 11);
        faultBehind("goes x goes", 1, 7);
        faultBehind("quarrel r x y a", 1, 14);
        faultBehind("quarrel r x y at a 1", 1, 19);
        faultBehind("quarrel r x y at a from x", 1, 24);
        faultBehind("quarrel r x y at a from 1 for 1", 1, 26);
        faultBehind("quarrel r x y at a from 1 needs ;", 1, 32);
        faultBehind("quarrel 1", 1, 8);
        faultBehind("hire x 3", 1, 7);
        faultBehind("hire x for", 1, 10);
        faultBehind("hire 1", 1, 5);
        faultBehind("unsure x", 1, 8);
        faultBehind("unsure x at", 1, 9);
        faultBehind("unsure hire", 1, 7);
        faultBehind("ended q 5", 1, 8);
        faultBehind("ended q at", 1, 10);
        faultBehind("ended ;", 1, 6);
        faultBehind("boys 5", 1, 0);
    }

    private static void promise4Names() {
        faultBehind("sees z a", 2, 5);
        faultBehind("sees a z", 2, 7);
        faultBehind("sees a x", 2, 7);
        faultBehind("sees q a", 2, 5);
        faultBehind("person z babe at z wit 1", 2, 17);
        faultBehind("person z babe at x wit 1", 2, 17);
        faultBehind("goes a a at 1", 2, 5);
        faultBehind("goes x y at 1", 2, 7);
        faultBehind("goes z a at 1", 2, 5);
        faultBehind("quarrel r a x at a from 0 needs 1", 2, 10);
        faultBehind("quarrel r r x at a from 0 needs 1", 2, 10);
        faultBehind("quarrel r x q at a from 0 needs 1", 2, 12);
        faultBehind("quarrel r x y at x from 0 needs 1", 2, 17);
        faultBehind("hire a for 1", 2, 5);
        faultBehind("hire z for 1", 2, 5);
        faultBehind("unsure q 1", 2, 7);
        faultBehind("ended x at 1", 2, 6);
        faultBehind("ended z at 1", 2, 6);
        // ahead of its use
        fault("town boys 0;sees a b;place a;place b", 2, 17);
    }

    private static void promise4Again() {
        faultBehind("place a", 3, 6);
        faultBehind("place x", 3, 6);
        faultBehind("place q", 3, 6);
        faultBehind("person x plain at a wit 1", 3, 7);
        faultBehind("person b plain at a wit 1", 3, 7);
        faultBehind("person q tall", 3, 7);
        faultBehind("quarrel q x y at a from 0 needs 1", 3, 8);
        faultBehind("quarrel x x y at a from 0 needs 1", 3, 8);
        faultBehind("sees a a", 3, 7);
        faultBehind("sees a b;sees a b", 3, 16);
        faultBehind("sees a b;sees b a;sees b a x", 3, 25);
        faultBehind("quarrel r x x", 3, 12);
        faultBehind("hire x for 1;hire x", 3, 18);
        faultBehind("unsure x 1;unsure x 1", 3, 18);
        faultBehind("ended q at 1;ended q at 1", 3, 19);
        faultBehind("town boys 0", 3, 0);
        faultBehind("town", 3, 0);
        // of like names, all eight letters count
        good("town boys 0;place abcdefgh;place abcdefgi;place bbcdefgh;place abcdefg;place z;place az");
        good(HEAD + ";sees a b;sees b a;hire x for 0;hire y for 0;unsure x 0;unsure y 0");
        good(HEAD + ";quarrel r x y at a from 0 needs 1;ended r at 5;ended q at 5");
    }

    private static void promise4Wholes() {
        fault("town boys 101", 4, 10);
        fault("town boys 999;place a", 4, 10);
        faultBehind("person z babe at a wit 10", 4, 23);
        faultBehind("goes x a at 0", 4, 12);
        faultBehind("goes x a at 60", 4, 12);
        faultBehind("quarrel r x y at a from 60 needs 1", 4, 24);
        faultBehind("quarrel r x y at a from 0 needs 0", 4, 32);
        faultBehind("quarrel r x y at a from 0 needs 100", 4, 32);
        faultBehind("hire x for 21", 4, 11);
        faultBehind("unsure x 10", 4, 9);
        faultBehind("ended q at 60", 4, 11);
        good(HEAD + ";goes x a at 1;goes x b at 59;goes y a at 59;person z babe at a wit 9");
        // out of bounds goes ahead of early at one place
        faultBehind("goes x a at 5;goes x a at 0", 4, 26);
    }

    private static void promise4Many() {
        String six = "town boys 0;place a;place b;place c;place d;place e;place f";
        good(six);
        fault(six + ";place g", 5, six.length() + 1);
        fault(six + ";place", 5, six.length() + 1);
        String sights = six + ";sees a b;sees a c;sees a d;sees a e;sees a f;sees b a;sees b c;sees b d";
        good(sights);
        fault(sights + ";sees a b", 5, sights.length() + 1);
        String people = "town boys 0;place a;person n plain at a wit 0;person o plain at a wit 0;person p plain at a wit 0;"
            + "person r plain at a wit 0;person s plain at a wit 0;person t plain at a wit 0";
        good(people);
        fault(people + ";person n plain at a wit 0", 5, people.length() + 1);
        String goings = people;
        for (int i = 1; i <= 10; i++) {
            goings += ";goes " + "nopr".charAt(i % 4) + " a at " + i;
        }
        good(goings);
        fault(goings + ";goes t a at 1", 5, goings.length() + 1);
        String quarrels = people;
        for (int i = 0; i < 3; i++) {
            quarrels += ";quarrel q" + "abc".charAt(i) + " n o at a from 0 needs 1";
        }
        good(quarrels);
        fault(quarrels + ";quarrel", 5, quarrels.length() + 1);
        good(quarrels + ";ended qa at 0;ended qb at 0;ended qc at 0");
        fault(quarrels + ";ended qa at 0;ended qb at 0;ended qc at 0;ended qa at 0", 3, quarrels.length() + 49);
        String unsure = people + ";unsure n 1;unsure o 1;unsure p 1;unsure r 1";
        good(unsure);
        fault(unsure + ";unsure n 1", 5, unsure.length() + 1);
        String hired = people + ";hire n for 0;hire o for 0;hire p for 0;hire r for 0;hire s for 0;hire t for 0";
        good(hired);
        fault(hired + ";hire n for 0", 3, hired.length() + 6);
    }

    private static void promise4Lacks() {
        fault("place a", 6, 0);
        fault("  place a;town boys 0", 6, 2);
        fault("sees", 6, 0);
        fault("person z", 6, 0);
        fault("goes", 6, 0);
        fault("quarrel", 6, 0);
        fault("hire", 6, 0);
        fault("unsure", 6, 0);
        fault("ended", 6, 0);
        fault("town boys 0", 6, 11);
        fault("town boys 0  ", 6, 13);
    }

    private static void promise4Early() {
        faultBehind("goes x a at 5;goes x b at 5", 7, 26);
        faultBehind("goes x a at 5;goes x b at 4", 7, 26);
        faultBehind("goes x a at 5;goes y b at 2;goes x b at 3", 7, 40);
        good(HEAD + ";goes x a at 5;goes y b at 2;goes x b at 6;goes y a at 3");
    }

    private static void promise4FirstFromTheLeft() {
        faultBehind("hire z for 99;!", 2, 5);
        faultBehind("hire x for 99;!", 4, 11);
        faultBehind("hire x for 9;!;place a", 1, 13);
        faultBehind("place a;place abcdefghi", 3, 6);
        faultBehind("sees a a b", 3, 7);
        fault("town boys 101;town boys 5", 4, 10);
    }

    private static void promise4LatestTown() {
        ThirdWitness x = new ThirdWitness();
        Check.due("fault", Check.tell(x, "town boys 0"), -1);
        Check.due("fault()", x.fault(), 6);
        Check.refused(x, "town(5)", x.town(5), 2);
        Check.due("fault() of the latest not refused by 2", x.fault(), 6);
        Check.due("town", Check.tell(x, HEAD), 2);
        Check.due("fault() without one", x.fault(), 0);
    }

    private static void promise5Where() {
        ThirdWitness x = new ThirdWitness();
        Check.due("fault", Check.tell(x, "town boys 0"), -1);
        Check.due("where()", x.where(), 11);
        Check.due("where() again", x.where(), 11);
        x.feed(0, 0, 0, 0, 0);
        x.size(3);
        x.fault();
        x.trouble();
        Check.throwsNoSuchElement("led(0)", () -> x.led(0) > 0);
        Check.due("where() behind calls that can't be refused by a number", x.where(), 11);
        Check.refused(x, "won()", x.won(), 1);
        Check.due("where() behind another refusal", x.where(), -1);
        Check.due("town", Check.tell(x, "place a"), -1);
        x.town(0);
        Check.due("where()", x.where(), 0);
        Check.due("town(21)", x.town(21), -1);
        Check.due("where() behind one by 2", x.where(), -1);
        Check.due("town", Check.tell(x, HEAD), 2);
        Check.due("where()", x.where(), -1);
    }
}
