import java.nio.charset.StandardCharsets;
import java.util.NoSuchElementException;
import java.util.function.BooleanSupplier;

/** What the tests share: comparing answers, and making a town of a text. */
final class Check {
    private static int wrong = 0;
    private static int made = 0;

    private Check() {
    }

    static void due(String call, long got, long want) {
        made++;
        if (got != want) {
            wrong++;
            System.out.println(call + " answered " + got + ", due is " + want);
        }
    }

    static void yes(String call, boolean got) {
        due(call, got ? 1 : 0, 1);
    }

    static void no(String call, boolean got) {
        due(call, got ? 1 : 0, 0);
    }

    /** An answer of NONE, and by which trouble. */
    static void refused(ThirdWitness x, String call, long got, int trouble) {
        due(call, got, ThirdWitness.NONE);
        due("trouble behind " + call, x.trouble(), trouble);
    }

    static void denied(ThirdWitness x, String call, boolean got, int trouble) {
        no(call, got);
        due("trouble behind " + call, x.trouble(), trouble);
    }

    /** An answer that isn't refused, even if it is -2 or 0. */
    static void granted(ThirdWitness x, String call, long got, long want) {
        due(call, got, want);
        due("trouble behind " + call, x.trouble(), 0);
    }

    static void throwsNoSuchElement(String call, BooleanSupplier made) {
        int thrown = 0;
        try {
            made.getAsBoolean();
        } catch (NoSuchElementException e) {
            thrown = 1;
        }
        due(call + " throws", thrown, 1);
    }

    /** A new object whose town is told by a text. */
    static ThirdWitness town(String text) {
        ThirdWitness x = new ThirdWitness();
        if (tell(x, text) < 0) {
            wrong++;
            System.out.println("fault " + x.fault() + " at " + x.where() + " in: " + text);
        }
        return x;
    }

    /** Tells an object with an empty tape a text: what town() answers. */
    static int tell(ThirdWitness x, String text) {
        feed(x, text);
        return x.town(text.length());
    }

    /** Puts a text on the tape, with blanks behind it up to the next twenty bytes. */
    static void feed(ThirdWitness x, String text) {
        byte[] bytes = text.getBytes(StandardCharsets.ISO_8859_1);
        for (int from = 0; from < bytes.length; from += 20) {
            x.feed(number(bytes, from), number(bytes, from + 4), number(bytes, from + 8),
                number(bytes, from + 12), number(bytes, from + 16));
        }
    }

    private static int number(byte[] bytes, int from) {
        int number = 0;
        for (int i = from; i < from + 4; i++) {
            number = number << 8 | (i < bytes.length ? bytes[i] & 255 : ' ');
        }
        return number;
    }

    /** Ends a test's main. */
    static void close() {
        System.out.println(made + " answers looked at, " + wrong + " wrong");
        System.exit(wrong == 0 && made > 0 ? 0 : 1);
    }
}
