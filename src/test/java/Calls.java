import java.util.ArrayList;
import java.util.Arrays;
import java.util.List;

/** The calls that may be refused by a number, with what each of their arguments may be. */
final class Calls {
    /** A full town: no sort of line has room left, and each index has its greatest range. */
    static final String FULL = "town boys 50;place a;place b;place c;place d;place e;place f;"
        + "sees a b;sees b c;sees c d;sees d e;sees e f;sees f a;sees a c;sees c a;"
        + "person p plain at a wit 9;person q plain at b wit 0;person r deaf at c wit 1;person s blind at d wit 2;"
        + "person t babe at e wit 3;person u plain at f wit 4;"
        + "quarrel x p q at a from 0 needs 99;quarrel y q r at b from 9 needs 9;quarrel z r s at c from 59 needs 1;"
        + "hire p for 1;hire q for 2;hire r for 3;hire s for 4;hire t for 5;hire u for 6;"
        + "unsure t 1;unsure u 2;unsure r 3;unsure s 4;ended x at 10;"
        + "goes p b at 1;goes p c at 9;goes q a at 9;goes r a at 59";

    interface Answer {
        long of(ThirdWitness x, int[] with);
    }

    /** What an argument is: outside of it a call is refused by 1 (there is none such) or 2 (a number). */
    enum Sort {
        PERSON(1, 6), PLACE(1, 6), SIGHT(1, 8), QUARREL(1, 3), OF_PERSON(1, 6), OF_SIGHT(1, 3), OF_QUARREL(1, 5),
        FIT(1, 16), IMAGE(1, 3), MINUTE(2, 60), HEAT(2, 10), FEW(2, 7), SEED(2, 65537), TIMES(2, 31);

        final int trouble;
        /** The least number that is too large in any town. */
        final int most;

        Sort(int trouble, int most) {
            this.trouble = trouble;
            this.most = most;
        }

        /** The least number that is too large in an object's town. */
        int bound(ThirdWitness x) {
            switch (this) {
                case PERSON:
                    return x.size(3);
                case PLACE:
                    return x.size(1);
                case SIGHT:
                    return x.size(2);
                case QUARREL:
                    return x.size(5);
                case FIT:
                    return x.size(1) == 0 ? 0 : x.fits();
                case IMAGE:
                    return x.size(10);
                default:
                    return most;
            }
        }
    }

    static final class Call {
        final String name;
        final Sort[] sorts;
        final Answer answer;
        /** What it answers when refused. */
        final long none;

        Call(String name, long none, Answer answer, Sort... sorts) {
            this.name = name;
            this.none = none;
            this.answer = answer;
            this.sorts = sorts;
        }

        String told(int[] with) {
            return name + Arrays.toString(with);
        }
    }

    /** Calls that leave all as it is. */
    static final List<Call> LOOKS = new ArrayList<>();
    /** Acts, and going back, by what they take. */
    static final List<Call> ACTS = new ArrayList<>();
    static final List<Call> ALL = new ArrayList<>();

    static {
        now();
        quarrels();
        whereAndWhen();
        unsureWits();
        turningAndTwo();
        boys();
        acts();
        ALL.addAll(LOOKS);
        ALL.addAll(ACTS);
    }

    private Calls() {
    }

    private static void look(String name, Answer answer, Sort... sorts) {
        LOOKS.add(new Call(name, -1, answer, sorts));
    }

    private static void now() {
        look("person", (x, a) -> x.person(a[0], a[1]), Sort.PERSON, Sort.OF_PERSON);
        look("sight", (x, a) -> x.sight(a[0], a[1]), Sort.SIGHT, Sort.OF_SIGHT);
        look("quarrel", (x, a) -> x.quarrel(a[0], a[1]), Sort.QUARREL, Sort.OF_QUARREL);
        look("at", (x, a) -> x.at(a[0], a[1]), Sort.PERSON, Sort.MINUTE);
        look("into", (x, a) -> x.into(a[0]), Sort.PLACE);
        look("watchers", (x, a) -> x.watchers(a[0], a[1]), Sort.PLACE, Sort.MINUTE);
        look("eyes", (x, a) -> x.eyes(a[0], a[1]), Sort.PLACE, Sort.MINUTE);
        look("hidden", (x, a) -> x.hidden(a[0]), Sort.MINUTE);
        look("square", (x, a) -> x.square());
    }

    private static void quarrels() {
        look("ends", (x, a) -> x.ends(a[0]), Sort.QUARREL);
        look("endsAt", (x, a) -> x.endsAt(a[0]), Sort.QUARREL);
        look("lead", (x, a) -> x.lead(a[0]), Sort.QUARREL);
        look("seen", (x, a) -> x.seen(a[0]), Sort.QUARREL);
        look("third", (x, a) -> x.third(a[0]), Sort.QUARREL);
        look("won", (x, a) -> x.won());
        look("nurse", (x, a) -> x.nurse());
    }

    private static void whereAndWhen() {
        look("endsIf", (x, a) -> x.endsIf(a[0], a[1], a[2]), Sort.QUARREL, Sort.PLACE, Sort.MINUTE);
        look("cellars", (x, a) -> x.cellars(a[0]), Sort.QUARREL);
        look("hour", (x, a) -> x.hour(a[0]), Sort.QUARREL);
        look("longest", (x, a) -> x.longest(a[0]), Sort.QUARREL);
        look("moor", (x, a) -> x.moor(a[0]), Sort.QUARREL);
        look("bricks", (x, a) -> x.bricks(a[0]), Sort.QUARREL);
        look("stoppers", (x, a) -> x.stoppers(a[0]), Sort.QUARREL);
        look("price", (x, a) -> x.price(a[0]), Sort.QUARREL);
        look("stoppedIf", (x, a) -> x.stoppedIf(a[0], a[1]), Sort.PERSON, Sort.PLACE);
        look("bestHire", (x, a) -> x.bestHire());
    }

    private static void unsureWits() {
        look("fits", (x, a) -> x.fits());
        look("fitAt", (x, a) -> x.fitAt(a[0]), Sort.FIT);
        look("could", (x, a) -> x.could());
        look("surely", (x, a) -> x.surely());
        look("ask", (x, a) -> x.ask());
        look("askLeaves", (x, a) -> x.askLeaves());
        look("judge", (x, a) -> x.judge());
    }

    private static void turningAndTwo() {
        look("swings upper", (x, a) -> x.swings(a[0], a[1], a[2], false), Sort.PERSON, Sort.PLACE, Sort.MINUTE);
        look("swings lower", (x, a) -> x.swings(a[0], a[1], a[2], true), Sort.PERSON, Sort.PLACE, Sort.MINUTE);
        look("three", (x, a) -> x.three(a[0], a[1]), Sort.PLACE, Sort.MINUTE);
        for (int i = 0; i < 8; i++) {
            boolean one = (i & 4) != 0;
            boolean other = (i & 2) != 0;
            boolean ofOther = (i & 1) != 0;
            LOOKS.add(new Call("says " + i, -100, (x, a) -> x.says(a[0], one, other, ofOther), Sort.HEAT));
        }
        look("rests", (x, a) -> x.rests(a[0]), Sort.HEAT);
        look("rest", (x, a) -> x.rest(a[0]), Sort.HEAT);
    }

    private static void boys() {
        look("lasts upper", (x, a) -> x.lasts(a[0], a[1], false), Sort.QUARREL, Sort.FEW);
        look("lasts lower", (x, a) -> x.lasts(a[0], a[1], true), Sort.QUARREL, Sort.FEW);
        look("endsBy", (x, a) -> x.endsBy(a[0], a[1]), Sort.QUARREL, Sort.SEED);
        look("endsByAt", (x, a) -> x.endsByAt(a[0], a[1]), Sort.QUARREL, Sort.SEED);
        look("wins", (x, a) -> x.wins(a[0], a[1], a[2]), Sort.QUARREL, Sort.SEED, Sort.TIMES);
        look("spent", (x, a) -> x.spent());
    }

    private static void acts() {
        ACTS.add(new Call("brick", 0, (x, a) -> x.brick(a[0]) ? 1 : 0, Sort.SIGHT));
        ACTS.add(new Call("open", 0, (x, a) -> x.open(a[0]) ? 1 : 0, Sort.SIGHT));
        ACTS.add(new Call("hire", -1, (x, a) -> x.hire(a[0], a[1]), Sort.PERSON, Sort.PLACE));
        ACTS.add(new Call("dismiss", 0, (x, a) -> x.dismiss(a[0]) ? 1 : 0, Sort.PERSON));
        ACTS.add(new Call("back", 0, (x, a) -> x.back(a[0]) ? 1 : 0, Sort.IMAGE));
    }

    /** Much that an object answers, and by which trouble: fewer than 400 calls. */
    static long[] dump(ThirdWitness x) {
        List<Long> answers = new ArrayList<>();
        for (int what = 0; what <= 11; what++) {
            answers.add((long) x.size(what));
        }
        for (Call call : LOOKS) {
            for (int i = 0; i < rounds(call); i++) {
                answers.add(call.answer.of(x, arguments(call, i)));
                answers.add((long) x.trouble());
            }
        }
        return answers.stream().mapToLong(answer -> answer).toArray();
    }

    static int rounds(Call call) {
        boolean numbers = call.sorts.length > 0 && call.sorts[0].trouble == 2;
        return call.sorts.length == 0 ? 1 : numbers ? 2 : Math.min(call.sorts[0].most, 8);
    }

    /** Arguments that are good in a full town. */
    static int[] arguments(Call call, int round) {
        int[] with = new int[call.sorts.length];
        for (int k = 0; k < with.length; k++) {
            with[k] = (k == 0 ? round : 7 * round + 3) % call.sorts[k].most;
        }
        return with;
    }
}
