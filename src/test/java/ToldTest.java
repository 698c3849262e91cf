/** Promises 57 and 58: how many there are, and why the latest call was refused. */
public final class ToldTest {
    private static final String TEXT = "town boys 33;place a;place b;place c;place d;sees a b;sees b a;sees c d;"
        + "person x plain at a wit 4;person y plain at a wit 1;goes x b at 1;goes x c at 2;goes y c at 2;goes y d at 4;"
        + "goes x a at 59;quarrel q x y at a from 0 needs 9;quarrel r y x at a from 0 needs 9;hire y for 0;"
        + "unsure x 1;unsure y 1;ended r at 2";

    private ToldTest() {
    }

    public static void main(String[] args) {
        promise57Size();
        promise57Others();
        promise58Trouble();
        promise58CallsWithoutNumbers();
        Check.due("NONE", ThirdWitness.NONE, -1);
        Check.close();
    }

    private static void promise57Size() {
        ThirdWitness x = Check.town(TEXT);
        int[] due = {33, 4, 3, 2, 5, 2, 1, 2, 1, 0, 0, 0};
        for (int what = 0; what < due.length; what++) {
            Check.due("size(" + what + ")", x.size(what), due[what]);
        }
        x.brick(0);
        x.brick(1);
        x.hire(1, 1);
        x.image();
        x.feed(0, 0, 0, 0, 0);
        x.feed(0, 0, 0, 0, 0);
        int[] now = {33, 4, 3, 2, 5, 2, 1, 2, 1, 3, 1, 40};
        for (int what = 0; what < now.length; what++) {
            Check.due("size(" + what + ")", x.size(what), now[what]);
        }
    }

    private static void promise57Others() {
        ThirdWitness x = Check.town(TEXT);
        ThirdWitness none = new ThirdWitness();
        for (int what : new int[] {-1, 12, Integer.MAX_VALUE, Integer.MIN_VALUE}) {
            Check.due("size(" + what + ")", x.size(what), -1);
            Check.due("size(" + what + ") without a town", none.size(what), -1);
        }
        for (int what = 0; what <= 11; what++) {
            Check.due("size(" + what + ") without a town", none.size(what), 0);
        }
        none.feed(0, 0, 0, 0, 0);
        Check.due("size(11) without a town", none.size(11), 20);
    }

    private static void promise58Trouble() {
        ThirdWitness x = new ThirdWitness();
        Check.due("trouble()", x.trouble(), 0);
        x.won();
        Check.due("trouble() 1", x.trouble(), 1);
        x.town(5);
        Check.due("trouble() 2", x.trouble(), 2);
        x.town(0);
        Check.due("trouble() 4", x.trouble(), 4);
        Check.tell(x, TEXT);
        Check.due("trouble() 0", x.trouble(), 0);
        x.at(0, 60);
        Check.due("trouble() 2", x.trouble(), 2);
        x.open(0);
        Check.due("trouble() 5", x.trouble(), 5);
        x.undo();
        Check.due("trouble() 6", x.trouble(), 6);
        for (int i = 0; i < 4; i++) {
            x.image();
        }
        Check.due("trouble() 3", x.trouble(), 3);
        Check.due("trouble() again", x.trouble(), 3);
        x.third(0);
        Check.due("trouble() 0, though the answer is -2", x.trouble(), 0);
    }

    private static void promise58CallsWithoutNumbers() {
        ThirdWitness x = Check.town(TEXT);
        for (int trouble = 0; trouble < 2; trouble++) {
            if (trouble == 1) {
                x.person(9, 9);
            }
            for (int i = 0; i < 46; i++) {
                x.feed(0, 0, 0, 0, 0);
            }
            x.size(12);
            x.size(1);
            x.fault();
            x.where();
            Check.throwsNoSuchElement("led(9)", () -> x.led(9) > 0);
            Check.due("trouble()", x.trouble(), trouble);
        }
    }
}
