/** Terms I at its edges: which bytes, tokens, wholes, names and how many lines a text may have; promises 2 to 5. */
public final class TextEdgeTest {
    private static final String HEAD = "town boys 7;place a;place b;person x plain at a wit 3;"
        + "person y deaf at b wit 0;quarrel q x y at a from 0 needs 1";
    private static final String[] KEYWORDS = {"town", "place", "sees", "person", "goes", "quarrel", "hire", "unsure", "ended"};

    private TextEdgeTest() {
    }

    public static void main(String[] args) {
        tapeOf900();
        textOf900();
        everyByte();
        lettersOfWords();
        lettersTellNamesApart();
        digitsOfWholes();
        tokensStandTogether();
        tokensCutOff();
        everyBeginning();
        wholes();
        wholesAsTold();
        rooms();
        fullTownsNames();
        keywordsAreNoNames();
        otherWordsAreNames();
        nearlyKeywords();
        nameSorts();
        badBytesWhereNamesStand();
        linesAheadOfTown();
        early();
        severalFaultsOfOnePlace();
        Check.close();
    }

    private static void fault(String text, int number, int place) {
        ThirdWitness x = Check.town(HEAD);
        Check.due("town: " + text, Check.tell(x, text), -1);
        Check.due("trouble of: " + text, x.trouble(), 4);
        Check.due("fault of: " + text, x.fault(), number);
        Check.due("where of: " + text, x.where(), place);
        Check.due("size(0) behind: " + text, x.size(0), 7);
        Check.due("size(11) behind: " + text, x.size(11), 0);
    }

    private static void faultBehind(String more, int number, int place) {
        fault(HEAD + ";" + more, number, HEAD.length() + 1 + place);
    }

    private static ThirdWitness good(String text) {
        ThirdWitness x = new ThirdWitness();
        int got = Check.tell(x, text);
        Check.due("places of: " + text, got, x.size(1));
        Check.yes("a place stands in: " + text, got > 0);
        Check.due("fault of: " + text, x.fault(), 0);
        Check.due("trouble of: " + text, x.trouble(), 0);
        Check.due("where of: " + text, x.where(), -1);
        return x;
    }

    private static String blanks(int many) {
        return " ".repeat(many);
    }

    private static void tapeOf900() {
        ThirdWitness x = new ThirdWitness();
        for (int i = 1; i <= 44; i++) {
            Check.due("feed", x.feed(i, i, i, i, i), 20 * i);
        }
        Check.due("feed to the 900th byte", x.feed(0, 0, 0, 0, 0), 900);
        Check.due("feed of the 901st", x.feed(0, 0, 0, 0, 0), -1);
        Check.due("none comes", x.size(11), 900);
        Check.due("feed again", x.feed(0, 0, 0, 0, 0), -1);
        Check.refused(x, "town(901)", x.town(901), 2);
        Check.due("the tape stays", x.size(11), 900);
        Check.refused(x, "town(899)", x.town(899), 4);
        Check.due("the tape is empty", x.size(11), 0);
        Check.refused(x, "town(1) of an empty tape", x.town(1), 2);
        for (int i = 1; i <= 45; i++) {
            Check.due("feed anew", x.feed(0, 0, 0, 0, 0), 20 * i);
        }
        Check.due("feed of the 901st", x.feed(0, 0, 0, 0, 0), -1);
    }

    private static void textOf900() {
        String head = "town boys 7;" + blanks(876);
        good(head + "place abcdef");
        good(blanks(881) + "town boys 0;place a");
        good("town boys 7;place a" + blanks(881));
        fault(head + "place abcde!", 1, 899);
        fault(head + "place abcde;", 1, 900);
        fault(head + "      place ", 1, 900);
        fault(head + "place abcd a", 1, 899);
        fault(head + "sees abcde f", 2, 893);
        fault("town boys 7" + blanks(889), 6, 900);
        // the tape has one byte more than the text
        ThirdWitness x = new ThirdWitness();
        Check.feed(x, head + "place abcde;");
        Check.due("town(899)", x.town(899), 1);
        Check.feed(x, head + "place abcde;");
        Check.refused(x, "town(900)", x.town(900), 4);
        Check.due("where()", x.where(), 900);
    }

    /** Each byte within a name, ahead of the text and behind it: blanks part tokens, and nothing else is a blank. */
    private static void everyByte() {
        for (int b = 0; b < 256; b++) {
            char sign = (char) b;
            boolean letter = b >= 'a' && b <= 'z';
            boolean digit = b >= '0' && b <= '9';
            String behind = "town boys 0;place a" + sign;
            if (letter || b == ' ') {
                good(behind);
            } else {
                fault(behind, 1, b == ';' ? 20 : 19);
            }
            String within = "town boys 0;place a" + sign + "b";
            if (letter) {
                good(within);
            } else {
                fault(within, 1, b == ' ' || b == ';' ? 20 : 19);
            }
            if (b == ' ') {
                good(sign + "town boys 0;place a");
            } else {
                fault(sign + "town boys 0;place a", 1, 0);
            }
            if (digit) {
                Check.due("boys", good("town boys " + sign + ";place a").size(0), b - '0');
            } else {
                fault("town boys " + sign + ";place a", 1, b == ' ' ? 11 : 10);
            }
        }
    }

    private static void lettersOfWords() {
        String letters = "abcdefghijklmnopqrstuvwxyz";
        for (int many = 1; many <= 8; many++) {
            for (int from = 0; from + many <= 26; from += many) {
                String word = letters.substring(from, from + many);
                if (!word.equals("at")) {
                    good("town boys 0;place " + word + ";place other;sees " + word + " other");
                }
            }
        }
        for (int many : new int[] {9, 10, 16, 17, 26, 27, 54, 100, 255, 256, 257, 264, 800}) {
            String word = letters.repeat(32).substring(0, many);
            // at the first of them, as a name, as a line's first word, as another word, and behind a fault
            fault("town boys 0;place " + word, 1, 18);
            fault("town boys 0;" + word + " a", 1, 12);
            fault("town " + word + " 0", 1, 5);
            fault(word, 1, 0);
            fault("town boys 0;place a;sees " + word, 1, 25);
            fault("town boys 0;place a " + word, 1, 20);
        }
        good("town boys 0;place zzzzzzzz;place aaaaaaaa;place zzzzzzz;place aaaaaaa;place z");
    }

    private static void lettersTellNamesApart() {
        String[] names = {"a", "b", "z", "aa", "az", "ba", "zz", "aaaaaaaa", "aaaaaaab", "aaaaaaba", "baaaaaaa", "zzzzzzzz",
            "azzzzzzz", "zaaaaaaa", "zzzzzzz", "aaaaaaa"};
        for (String one : names) {
            for (String other : names) {
                String text = "town boys 0;place " + one + ";place " + other;
                if (one.equals(other)) {
                    fault(text, 3, 25 + one.length());
                } else {
                    good(text);
                    fault("town boys 0;place " + one + ";sees " + other, 2, 24 + one.length());
                }
            }
        }
    }

    private static void digitsOfWholes() {
        for (String seven : new String[] {"7", "07", "007"}) {
            Check.due("boys " + seven, good("town boys " + seven + ";place a").size(0), 7);
        }
        for (String zero : new String[] {"0", "00", "000"}) {
            Check.due("boys " + zero, good("town boys " + zero + ";place a").size(0), 0);
        }
        for (String many : new String[] {"0000", "0007", "1000", "9999", "00000", "4294967296", "4294967303",
            "18446744073709551623", "7".repeat(256), "0".repeat(760)}) {
            // four digits and more begin no token, though they would be a whole out of bounds, or too early
            fault("town boys " + many, 1, 10);
            faultBehind("goes x a at " + many, 1, 12);
            faultBehind("unsure x " + many.substring(0, 4), 1, 9);
        }
        // nor do they where no whole could stand
        fault("town boys 0 0000", 1, 12);
        fault("0000", 1, 0);
    }

    /** Words, wholes and ; need no blanks between one another. */
    private static void tokensStandTogether() {
        ThirdWitness x = good("town boys100;place a;person x plain at a wit9;person y plain at a wit0;"
            + "quarrel q x y at a from59needs99;hire x for20;unsure x 9;ended q at59;goes x a at59");
        Check.due("size(0)", x.size(0), 100);
        Check.due("quarrel(0, 3)", x.quarrel(0, 3), 59);
        Check.due("quarrel(0, 4)", x.quarrel(0, 4), 99);
        Check.due("person(0, 3)", x.person(0, 3), 20);
        good("town boys 0   ;   place     a;place b    ");
        good(" town boys 0;place a ");
        fault("townboys 0", 1, 0);
        fault("town boys 1 0", 1, 12);
        fault("town boys 0;placea", 1, 12);
        fault("town boys 0;pl ace a", 1, 12);
        fault("town boys 0;;place a", 1, 12);
        fault("town boys 0; ;place a", 1, 13);
        fault(";town boys 0;place a", 1, 0);
        fault("town boys 0;place a;;", 1, 20);
        fault("town boys 0;place a ;", 1, 21);
    }

    /** Only the first n bytes count: what stands behind them belongs to no token. */
    private static void tokensCutOff() {
        String text = "town boys 0;place abcdefgh" + "i;place b";
        int[][] due = {{26, 0, -1}, {25, 0, -1}, {19, 0, -1}, {18, 1, 18}, {17, 1, 17}, {27, 1, 18}, {16, 1, 12}, {12, 1, 12},
            {11, 6, 11}, {10, 1, 10}, {9, 1, 9}, {8, 1, 5}, {5, 1, 5}, {4, 1, 4}, {3, 1, 0}, {1, 1, 0}, {0, 1, 0}};
        cut(text, due);
        String wholes = HEAD + ";unsure x 99";
        int end = wholes.length();
        cut(wholes, new int[][] {{end - 1, 0, -1}, {end, 4, end - 2}});
        String digits = HEAD + ";hire x for 0019";
        int last = digits.length();
        cut(digits, new int[][] {{last - 1, 0, -1}, {last, 1, last - 4}});
        String marks = HEAD + ";unsure x 9;!";
        int mark = marks.length();
        cut(marks, new int[][] {{mark - 2, 0, -1}, {mark - 1, 1, mark - 1}, {mark, 1, mark - 1}});
    }

    private static void cut(String text, int[][] due) {
        for (int[] d : due) {
            ThirdWitness x = new ThirdWitness();
            Check.feed(x, text);
            Check.due("town(" + d[0] + "): " + text, x.town(d[0]) > 0 ? 0 : 1, d[1] == 0 ? 0 : 1);
            Check.due("fault of town(" + d[0] + "): " + text, x.fault(), d[1]);
            Check.due("where of town(" + d[0] + "): " + text, x.where(), d[2]);
            Check.due("the tape is empty", x.size(11), 0);
        }
    }

    /** Of each beginning of a full town, the second reader tells as much, and each byte that is cut away counts. */
    private static void everyBeginning() {
        for (int n = 0; n <= Calls.FULL.length(); n++) {
            ThirdWitness x = new ThirdWitness();
            Oracle o = new Oracle();
            Check.feed(x, Calls.FULL);
            Texts.feed(o, Calls.FULL);
            Check.due("town(" + n + ")", x.town(n), o.town(n));
            Check.due("fault of " + n, x.fault(), o.fault());
            Check.due("where of " + n, x.where(), o.where());
            for (int what = 0; what <= 11; what++) {
                Check.due("size(" + what + ") of " + n, x.size(what), o.size(what));
            }
        }
    }

    /** Each whole of each line: its least and greatest, those within, and those outside. */
    private static void wholes() {
        bounds("town boys ", ";place a", 0, 100);
        bounds(HEAD + ";person z babe at a wit ", "", 0, 9);
        bounds(HEAD + ";goes x b at ", "", 1, 59);
        bounds(HEAD + ";quarrel r x y at b from ", " needs 1", 0, 59);
        bounds(HEAD + ";quarrel r x y at b from 0 needs ", "", 1, 99);
        bounds(HEAD + ";hire x for ", "", 0, 20);
        bounds(HEAD + ";unsure x ", "", 0, 9);
        bounds(HEAD + ";ended q at ", "", 0, 59);
    }

    private static void bounds(String ahead, String behind, int least, int most) {
        for (int whole = 0; whole <= 130; whole++) {
            if (whole >= least && whole <= most) {
                good(ahead + whole + behind);
            } else {
                fault(ahead + whole + behind, 4, ahead.length());
                fault(ahead + whole, 4, ahead.length());
            }
        }
        for (int whole : new int[] {255, 256, 257, 512, 900, 999}) {
            fault(ahead + whole + behind, 4, ahead.length());
        }
        fault(ahead + "-1" + behind, 1, ahead.length());
        fault(ahead + "a" + behind, 1, ahead.length());
        fault(ahead + ";" + behind, 1, ahead.length());
        fault(ahead, 1, ahead.length());
    }

    private static void wholesAsTold() {
        for (int boys : new int[] {0, 1, 50, 99, 100}) {
            Check.due("size(0)", good("town boys " + boys + ";place a").size(0), boys);
        }
        for (int wit = 0; wit <= 9; wit++) {
            Check.due("person(2, 1)", good(HEAD + ";person z babe at a wit " + wit).person(2, 1), wit);
        }
        for (int minute : new int[] {1, 2, 58, 59}) {
            ThirdWitness x = good(HEAD + ";goes x b at " + minute);
            Check.due("at(0, 0)", x.at(0, 0), 0);
            Check.due("at(0, " + (minute - 1) + ")", x.at(0, minute - 1), 0);
            Check.due("at(0, " + minute + ")", x.at(0, minute), 1);
            Check.due("at(0, 59)", x.at(0, 59), 1);
            Check.due("at(1, 0) of the next one", x.at(1, 0), 1);
        }
        for (int from : new int[] {0, 1, 58, 59}) {
            for (int needs : new int[] {1, 2, 98, 99}) {
                ThirdWitness x = good(HEAD + ";quarrel r y x at b from " + from + " needs " + needs);
                int[] due = {1, 0, 1, from, needs};
                for (int what = 0; what < 5; what++) {
                    Check.due("quarrel(1, " + what + ")", x.quarrel(1, what), due[what]);
                    Check.due("quarrel(0, " + what + ")", x.quarrel(0, what), new int[] {0, 1, 0, 0, 1}[what]);
                }
            }
        }
        for (int shillings : new int[] {0, 1, 19, 20}) {
            ThirdWitness x = good(HEAD + ";hire y for " + shillings);
            Check.due("person(1, 3)", x.person(1, 3), shillings);
            Check.due("person(0, 3)", x.person(0, 3), -2);
            Check.due("hire(1, 0)", x.hire(1, 0), shillings);
        }
        for (int minute : new int[] {0, 1, 58, 59}) {
            ThirdWitness x = good(HEAD.replace("from 0", "from " + minute) + ";ended q at " + minute);
            Check.due("judge()", x.judge(), -2);
        }
    }

    /** Lines of each sort up to their room, and one more, at its first word, whatever it says. */
    private static void rooms() {
        room("place", 1, 6, 7, i -> "place p" + (char) ('a' + i), "town boys 0");
        String six = "town boys 0;place a;place b;place c;place d;place e;place f";
        room("sees", 2, 8, 9, i -> "sees " + (char) ('a' + i / 5) + " " + (char) ('a' + (i % 5 >= i / 5 ? i % 5 + 1 : i % 5)), six);
        // each of seven sights, told once more, is told already
        String seven = six;
        for (int i = 0; i < 7; i++) {
            seven += ";sees " + "abcdefa".charAt(i) + " " + "bcdefac".charAt(i);
        }
        for (int i = 0; i < 7; i++) {
            fault(seven + ";sees " + "abcdefa".charAt(i) + " " + "bcdefac".charAt(i), 3, seven.length() + 8);
            good(seven + ";sees " + "bcdefae".charAt(i) + " " + "abcdefa".charAt(i));
        }
        room("person", 3, 6, 7, i -> "person n" + (char) ('a' + i) + " babe at f wit 0", six);
        String two = six + ";person x plain at a wit 0;person y plain at f wit 0";
        room("goes", 4, 10, 11, i -> "goes " + (i % 2 == 0 ? "x" : "y") + " b at " + (i + 1), two);
        room("quarrel", 5, 3, 4, i -> "quarrel q" + (char) ('a' + i) + " x y at b from 0 needs 1", two);
        String people = two + ";person z plain at a wit 0;person u plain at a wit 0;person v plain at a wit 0;person w plain at a wit 0";
        room("unsure", 7, 4, 5, i -> "unsure " + "xyzuv".charAt(i) + " 0", people);
        // of these each is told once at most: a line more is of one told already
        String hired = people;
        for (int i = 0; i < 6; i++) {
            Check.due("size(6)", good(hired).size(6), i);
            hired += ";hire " + "xyzuvw".charAt(i) + " for " + i;
        }
        Check.due("size(6)", good(hired).size(6), 6);
        fault(hired + ";hire x for 1", 3, hired.length() + 6);
        fault(hired + ";hire nobody for 1", 2, hired.length() + 6);
        String ended = two + ";quarrel q x y at b from 0 needs 1;quarrel r x y at b from 0 needs 1;quarrel s x y at b from 0 needs 1";
        for (int i = 0; i < 3; i++) {
            Check.due("size(8)", good(ended).size(8), i);
            ended += ";ended " + "qrs".charAt(i) + " at 0";
        }
        Check.due("size(8)", good(ended).size(8), 3);
        fault(ended + ";ended s at 1", 3, ended.length() + 7);
    }

    private static void room(String sort, int what, int most, int tried, java.util.function.IntFunction<String> line, String head) {
        String text = head;
        for (int i = 0; i < tried; i++) {
            String next = text + ";" + line.apply(i);
            if (i < most) {
                Check.due("size(" + what + ") of " + next, good(next).size(what), i + 1);
            } else {
                fault(next, 5, text.length() + 1);
                fault(text + ";" + sort, 5, text.length() + 1);
                fault(text + ";" + sort + " town", 5, text.length() + 1);
                fault(text + ";  " + sort + " !", 5, text.length() + 3);
                // another sort still has room
                good(text + (what == 7 ? ";hire x for 0" : what == 3 ? ";sees a b" : what == 1 ? ";person x babe at pa wit 0" : ""));
            }
            text = next;
        }
    }

    /** Of a full town each of the fifteen names is told: it can be used for its sort, and not told again. */
    private static void fullTownsNames() {
        String less = "town boys 0;place a;place b;place c;place d;place e;place f;person p plain at a wit 9;person q plain at b wit 0;"
            + "person r deaf at c wit 1;person s blind at d wit 2;person t babe at e wit 3;person u plain at f wit 4;"
            + "quarrel x p q at a from 0 needs 99;quarrel y q r at b from 9 needs 9";
        String full = less + ";quarrel z t u at f from 59 needs 1";
        for (char name : "abcdefpqrstuxyz".toCharArray()) {
            if (name <= 'f') {
                good(full + ";goes u " + name + " at 1");
                good(full + ";sees " + name + (name == 'a' ? " b" : " a"));
                fault(full + ";hire " + name, 2, full.length() + 6);
                fault(full + ";ended " + name, 2, full.length() + 7);
            } else if (name <= 'u') {
                good(full + ";unsure " + name + " 1;hire " + name + " for 1;goes " + name + " a at 1");
                fault(full + ";sees a " + name, 2, full.length() + 8);
                fault(full + ";ended " + name, 2, full.length() + 7);
            } else {
                good(full + ";ended " + name + " at 1");
                fault(full + ";sees " + name, 2, full.length() + 6);
                fault(full + ";goes " + name, 2, full.length() + 6);
            }
            if (name != 'z') {
                fault(less + ";quarrel " + name + " t u at f from 59 needs 1", 3, less.length() + 9);
            }
        }
        Check.due("judge() of the last one", good(full + ";ended z at 58").judge(), 2);
        Check.due("judge() of the first one", good(full + ";ended x at 58").judge(), 0);
        fault(full + ";goes u a at 5;goes u a at 5", 7, full.length() + 27);
        fault(full + ";goes p a at 5;goes p a at 5", 7, full.length() + 27);
        Check.due("quarrel(2, 0)", good(full).quarrel(2, 0), 4);
        Check.due("quarrel(2, 2)", good(full).quarrel(2, 2), 5);
        Check.due("at(5, 0)", good(full).at(5, 0), 5);
        Check.due("person(5, 1)", good(full).person(5, 1), 4);
    }

    private static void keywordsAreNoNames() {
        for (String word : KEYWORDS) {
            fault("town boys 0;place " + word, 1, 18);
            fault("town boys 0;place a;person " + word + " plain at a wit 1", 1, 27);
            faultBehind("quarrel " + word + " x y at a from 0 needs 1", 1, 8);
            faultBehind("sees " + word + " a", 1, 5);
            faultBehind("sees a " + word, 1, 7);
            faultBehind("person z babe at " + word + " wit 1", 1, 17);
            faultBehind("goes " + word + " a at 1", 1, 5);
            faultBehind("goes x " + word + " at 1", 1, 7);
            faultBehind("quarrel r " + word + " y at a from 0 needs 1", 1, 10);
            faultBehind("quarrel r x " + word + " at a from 0 needs 1", 1, 12);
            faultBehind("quarrel r x y at " + word + " from 0 needs 1", 1, 17);
            faultBehind("hire " + word + " for 1", 1, 5);
            faultBehind("unsure " + word + " 1", 1, 7);
            faultBehind("ended " + word + " at 1", 1, 6);
            faultBehind("person z " + word, 1, 9);
        }
    }

    private static void otherWordsAreNames() {
        for (String word : new String[] {"boys", "at", "wit", "from", "needs", "for", "plain", "deaf", "blind", "babe", "towns",
            "tow", "end", "placeend"}) {
            ThirdWitness x = good("town boys 0;place " + word + ";place c;sees " + word + " c;sees c " + word
                + ";person p plain at " + word + " wit 1;goes p " + word + " at 1");
            Check.due("sight(1, 1)", x.sight(1, 1), 0);
            ThirdWitness y = good("town boys 0;place c;person p plain at c wit 2;person " + word + " babe at c wit 1;quarrel q " + word
                + " p at c from 0 needs 1;hire " + word + " for 1;unsure " + word + " 1;goes " + word + " c at 1");
            Check.due("quarrel(0, 0)", y.quarrel(0, 0), 1);
            ThirdWitness z = good(HEAD + ";quarrel " + word + " y x at a from 0 needs 1;ended " + word + " at 1");
            Check.due("judge()", z.judge(), 1);
        }
    }

    private static void nearlyKeywords() {
        for (String word : KEYWORDS) {
            String[] nearly = {word.substring(1), word.substring(0, word.length() - 1), word + "s", "a" + word,
                word.charAt(0) + "!" + word.substring(1), word.toUpperCase()};
            for (String other : nearly) {
                faultBehind(other + " x", 1, 0);
            }
        }
        for (String word : new String[] {"boy", "boyss", "oys", "at"}) {
            fault("town " + word + " 0;place a", 1, 5);
        }
        for (String kind : new String[] {"plai", "plains", "dea", "deafs", "blin", "blinds", "bab", "babes", "at", "x"}) {
            faultBehind("person z " + kind + " at a wit 1", 1, 9);
        }
        String[] kinds = {"plain", "deaf", "blind", "babe"};
        int[] eyes = {2, 2, 0, 1};
        for (int kind = 0; kind < 4; kind++) {
            ThirdWitness x = good(HEAD + ";person z " + kinds[kind] + " at a wit 1");
            Check.due("person(2, 0)", x.person(2, 0), kind);
            Check.due("person(2, 2)", x.person(2, 2), eyes[kind]);
        }
    }

    /** Where a name of one sort must stand, ones of the two others and untold ones are 2, at it. */
    private static void nameSorts() {
        for (String name : new String[] {"x", "q", "z", "aa"}) {
            faultBehind("sees " + name + " a", 2, 5);
            faultBehind("sees a " + name, 2, 7);
            faultBehind("person r babe at " + name, 2, 17);
            faultBehind("goes x " + name, 2, 7);
            faultBehind("quarrel r x y at " + name, 2, 17);
        }
        for (String name : new String[] {"a", "q", "z", "xx"}) {
            faultBehind("goes " + name + " a", 2, 5);
            faultBehind("quarrel r " + name, 2, 10);
            faultBehind("quarrel r x " + name, 2, 12);
            faultBehind("hire " + name, 2, 5);
            faultBehind("unsure " + name, 2, 7);
        }
        for (String name : new String[] {"a", "x", "z", "qq"}) {
            faultBehind("ended " + name, 2, 6);
        }
        // a name is told once, of whatever sort
        for (String name : new String[] {"a", "b", "x", "y", "q"}) {
            faultBehind("place " + name, 3, 6);
            faultBehind("person " + name, 3, 7);
            faultBehind("quarrel " + name, 3, 8);
        }
        // its own line's name is told, but of another sort
        faultBehind("quarrel r r y", 2, 10);
        faultBehind("quarrel r x r", 2, 12);
        faultBehind("quarrel r x y at r", 2, 17);
        faultBehind("person r babe at r", 2, 17);
        // ahead of its use, not behind it
        faultBehind("goes z a at 1;person z plain at a wit 1", 2, 5);
        faultBehind("ended r at 1;quarrel r x y at a from 0 needs 1", 2, 6);
        faultBehind("sees a c;place c", 2, 7);
    }

    /** A byte that begins no token is 1 wherever it stands, though the token ahead of it could be said once more there. */
    private static void badBytesWhereNamesStand() {
        for (String bad : new String[] {"!", "A", "abcdefghi", "1234", "-", "\t"}) {
            faultBehind("sees a " + bad, 1, 7);
            faultBehind("sees " + bad, 1, 5);
            faultBehind("goes x " + bad, 1, 7);
            faultBehind("quarrel r x " + bad, 1, 12);
            faultBehind("hire " + bad, 1, 5);
            faultBehind("hire x " + bad, 1, 7);
            faultBehind("hire x for 1 " + bad, 1, 13);
            faultBehind("hire x for 1;" + bad, 1, 13);
            faultBehind("hire x for " + bad, 1, 11);
            faultBehind("unsure x " + bad, 1, 9);
            faultBehind("place " + bad, 1, 6);
            faultBehind(bad, 1, 0);
        }
    }

    private static void linesAheadOfTown() {
        for (String word : KEYWORDS) {
            if (!word.equals("town")) {
                fault(word, 6, 0);
                fault(word + " !", 6, 0);
                fault("  " + word + " a;town boys 0;place a", 6, 2);
            }
        }
        fault("town boys 0", 6, 11);
        fault("town boys 100   ", 6, 16);
        fault("town boys 0;sees", 1, 16);
        fault("town boys 0;person p", 1, 20);
        good("town boys 0;place a");
        for (String again : new String[] {"town", "town boys 0", "town boys 7", "town !", "town 7"}) {
            faultBehind(again, 3, 0);
            fault("town boys 7;" + again, 3, 12);
        }
    }

    private static void early() {
        for (int first : new int[] {1, 2, 30, 58, 59}) {
            for (int next = 1; next <= 59; next++) {
                String text = HEAD + ";goes x b at " + first + ";goes x a at " + next;
                if (next > first) {
                    good(text);
                } else {
                    fault(text, 7, text.lastIndexOf(' ') + 1);
                }
                // another one's minutes are nothing to him
                good(HEAD + ";goes y b at " + first + ";goes x a at " + next);
            }
        }
        // the line ahead is that one's latest, though others' stand between
        faultBehind("goes x b at 3;goes x b at 9;goes y a at 4;goes x a at 9", 7, 54);
        good(HEAD + ";goes x b at 3;goes x b at 9;goes y a at 4;goes x a at 10;goes y a at 5");
    }

    private static void severalFaultsOfOnePlace() {
        // 1 ahead of 6, at the end
        fault("", 1, 0);
        fault("town", 1, 4);
        fault("town boys", 1, 9);
        fault("town boys 0;", 1, 12);
        // 3 ahead of what a second town's whole would be, 4 ahead of 7
        faultBehind("goes x b at 9;goes x b at 0", 4, 26);
        faultBehind("goes x b at 9;goes x b at 60", 4, 26);
        // the first from the left, though a later one has a lesser number
        faultBehind("goes x b at 9;goes x b at 9!", 7, 26);
        faultBehind("goes x b at 9;goes x b at 9;place a", 7, 26);
        faultBehind("unsure x 10!", 4, 9);
        faultBehind("hire x for 21;hire z", 4, 11);
        faultBehind("place a!", 3, 6);
        faultBehind("sees a a!", 3, 7);
        faultBehind("sees z !", 2, 5);
        faultBehind("sees a z!", 2, 7);
        fault("place !", 6, 0);
    }
}
