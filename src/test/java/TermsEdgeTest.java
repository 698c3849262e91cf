/** Terms II and III at their edges: minutes 0 and 59, five and six eyes, leads, first and last ones, none and all. */
public final class TermsEdgeTest {
    private static final String SIX = "town boys 0;place a;place b;place c;place d;place e;place f;";
    /** Two at a, x ahead by 9 a minute. */
    private static final String XY = "person x plain at a wit 9;person y plain at a wit 0;";
    private static final String VW = "person v plain at a wit 0;person w plain at a wit 0;";
    private static final String UVW = "person u plain at a wit 0;" + VW;

    private TermsEdgeTest() {
    }

    public static void main(String[] args) {
        whereOneIs();
        whereHiredOnesAre();
        nextOneStays();
        sightsFromAndInto();
        eyesOfKinds();
        hidden();
        squareOfAllMinutes();
        fiveAndSixEyes();
        needs();
        leads();
        firstAndLastMinutes();
        notAheadOfItsMinute();
        stoppedAheadOfWon();
        thirdOfSeveral();
        wonAndLed();
        nurse();
        Check.close();
    }

    private static ThirdWitness town(String text) {
        return Check.town(text);
    }

    private static void ends(ThirdWitness x, int q, int how, int minute, int lead, int seen, int third) {
        Check.granted(x, "ends(" + q + ")", x.ends(q), how);
        Check.granted(x, "endsAt(" + q + ")", x.endsAt(q), minute);
        Check.granted(x, "lead(" + q + ")", x.lead(q), lead);
        Check.granted(x, "seen(" + q + ")", x.seen(q), seen);
        Check.granted(x, "third(" + q + ")", x.third(q), third);
    }

    private static void whereOneIs() {
        ThirdWitness x = town(SIX + "person p plain at f wit 0;goes p a at 1;goes p b at 2;goes p c at 30;goes p d at 58;goes p e at 59");
        for (int minute = 0; minute < 60; minute++) {
            int due = minute < 1 ? 5 : minute < 2 ? 0 : minute < 30 ? 1 : minute < 58 ? 2 : minute < 59 ? 3 : 4;
            Check.granted(x, "at(0, " + minute + ")", x.at(0, minute), due);
            for (int place = 0; place < 6; place++) {
                Check.granted(x, "watchers(" + place + ", " + minute + ")", x.watchers(place, minute), place == due ? 1 : 0);
                Check.granted(x, "eyes(" + place + ", " + minute + ")", x.eyes(place, minute), place == due ? 2 : 0);
            }
            Check.granted(x, "hidden(" + minute + ")", x.hidden(minute), 63 & ~(1 << due));
        }
        // where he is already, he may go
        ThirdWitness y = town(SIX + "person p plain at f wit 0;goes p f at 1;goes p f at 59");
        Check.granted(y, "at(0, 1)", y.at(0, 1), 5);
        Check.granted(y, "at(0, 59)", y.at(0, 59), 5);
    }

    private static void whereHiredOnesAre() {
        // all six sent to each of the six places, at all minutes, and back to their ways
        String people = "person p plain at a wit 0;person q plain at b wit 0;person r plain at c wit 0;person s plain at d wit 0;"
            + "person t plain at e wit 0;person u plain at f wit 0;";
        String ways = "goes p f at 1;goes u a at 59;";
        ThirdWitness x = town(SIX + people + ways + "hire p for 0;hire q for 0;hire r for 0;hire s for 0;hire t for 0;hire u for 20");
        for (int turn = 0; turn < 6; turn++) {
            for (int p = 0; p < 6; p++) {
                int place = (p + turn) % 6;
                Check.granted(x, "hire(" + p + ", " + place + ")", x.hire(p, place), p == 5 ? 20 : 0);
            }
            for (int p = 0; p < 6; p++) {
                Check.granted(x, "person(" + p + ", 4)", x.person(p, 4), (p + turn) % 6);
                Check.granted(x, "at(" + p + ", 0)", x.at(p, 0), (p + turn) % 6);
                Check.granted(x, "at(" + p + ", 59)", x.at(p, 59), (p + turn) % 6);
            }
        }
        Check.granted(x, "spent()", x.spent(), 120);
        for (int p = 5; p >= 0; p--) {
            Check.yes("dismiss(" + p + ")", x.dismiss(p));
            Check.granted(x, "person(" + p + ", 4)", x.person(p, 4), -2);
            Check.granted(x, "at(" + p + ", 0)", x.at(p, 0), p);
            if (p > 0) {
                Check.granted(x, "at(" + (p - 1) + ", 0) of the one ahead", x.at(p - 1, 0), (p - 1 + 5) % 6);
            }
        }
        Check.granted(x, "at(0, 1)", x.at(0, 1), 5);
        Check.granted(x, "at(5, 59)", x.at(5, 59), 0);
        Check.granted(x, "at(5, 58)", x.at(5, 58), 5);
    }

    /** A going of one moves nobody else, not even at the last minute. */
    private static void nextOneStays() {
        ThirdWitness x = town(SIX + "person p plain at a wit 0;person q plain at b wit 0;person r plain at c wit 0;"
            + "goes p d at 59;goes q e at 1;goes r f at 58");
        int[][] due = {{0, 0, 0}, {0, 58, 0}, {0, 59, 3}, {1, 0, 1}, {1, 1, 4}, {1, 59, 4}, {2, 0, 2}, {2, 57, 2}, {2, 58, 5}};
        for (int[] d : due) {
            Check.granted(x, "at(" + d[0] + ", " + d[1] + ")", x.at(d[0], d[1]), d[2]);
        }
    }

    private static void sightsFromAndInto() {
        // each place sees into the next one, and a into c and f
        ThirdWitness x = town(SIX + "sees a b;sees b c;sees c d;sees d e;sees e f;sees f a;sees a c;sees a f;person p babe at a wit 0");
        int[] into = {0b100111, 0b000110, 0b001100, 0b011000, 0b110000, 0b100001};
        for (int place = 0; place < 6; place++) {
            Check.granted(x, "into(" + place + ")", x.into(place), into[place]);
            Check.granted(x, "watchers(" + place + ", 0)", x.watchers(place, 0), into[0] >> place & 1);
        }
        // each sight by itself bricked up, seen to be, and opened again
        int[][] ends = {{0, 1}, {1, 2}, {2, 3}, {3, 4}, {4, 5}, {5, 0}, {0, 2}, {0, 5}};
        for (int k = 0; k < 8; k++) {
            Check.granted(x, "sight(" + k + ", 0)", x.sight(k, 0), ends[k][0]);
            Check.granted(x, "sight(" + k + ", 1)", x.sight(k, 1), ends[k][1]);
            Check.granted(x, "sight(" + k + ", 2)", x.sight(k, 2), 0);
            Check.denied(x, "open(" + k + ")", x.open(k), 5);
            Check.yes("brick(" + k + ")", x.brick(k));
            Check.denied(x, "brick(" + k + ")", x.brick(k), 5);
            Check.granted(x, "sight(" + k + ", 2)", x.sight(k, 2), 1);
            for (int place = 0; place < 6; place++) {
                int due = into[place] & ~(place == ends[k][0] ? 1 << ends[k][1] : 0);
                Check.granted(x, "into(" + place + ") without sight " + k, x.into(place), due);
            }
            int seen = ends[k][0] == 0 ? 0 : into[0] >> ends[k][1] & 1;
            Check.granted(x, "watchers without sight " + k, x.watchers(ends[k][1], 59), seen);
            Check.yes("open(" + k + ")", x.open(k));
            Check.granted(x, "sight(" + k + ", 2)", x.sight(k, 2), 0);
            Check.granted(x, "into(" + ends[k][0] + ")", x.into(ends[k][0]), into[ends[k][0]]);
        }
        ThirdWitness y = town(Calls.FULL);
        for (int k = 0; k < 8; k++) {
            Check.yes("brick(" + k + ")", y.brick(k));
        }
        for (int place = 0; place < 6; place++) {
            Check.granted(y, "into(" + place + ") of itself, all bricked up", y.into(place), 1 << place);
        }
        for (int k = 7; k >= 0; k--) {
            Check.yes("open(" + k + ")", y.open(k));
            for (int other = 0; other < 8; other++) {
                Check.granted(y, "sight(" + other + ", 2)", y.sight(other, 2), other < k ? 1 : 0);
            }
        }
    }

    private static void eyesOfKinds() {
        ThirdWitness x = town("town boys 0;place a;person p plain at a wit 0;person d deaf at a wit 0;person c blind at a wit 0;"
            + "person b babe at a wit 0");
        Check.granted(x, "eyes(0, 0)", x.eyes(0, 0), 5);
        Check.granted(x, "watchers(0, 0): blind ones, too", x.watchers(0, 0), 15);
        int[] eyes = {2, 2, 0, 1};
        for (int p = 0; p < 4; p++) {
            Check.granted(x, "person(" + p + ", 0)", x.person(p, 0), p);
            Check.granted(x, "person(" + p + ", 2)", x.person(p, 2), eyes[p]);
        }
        ThirdWitness six = town("town boys 0;place a;person p plain at a wit 0;person q deaf at a wit 0;person r plain at a wit 0;"
            + "person s deaf at a wit 0;person t plain at a wit 0;person u deaf at a wit 0");
        Check.granted(six, "eyes(0, 59) of six", six.eyes(0, 59), 12);
        Check.granted(six, "watchers(0, 59) of six", six.watchers(0, 59), 63);
    }

    private static void hidden() {
        ThirdWitness x = town(SIX + "sees b c;person p blind at a wit 0;person q babe at b wit 0;person r deaf at d wit 0;"
            + "person s blind at d wit 0;goes q e at 1");
        Check.granted(x, "hidden(0)", x.hidden(0), 0b110001);
        Check.granted(x, "hidden(1)", x.hidden(1), 0b100111);
        Check.granted(x, "hidden(59)", x.hidden(59), 0b100111);
    }

    /** Minute 0 and minute 59 decide between like ones. */
    private static void squareOfAllMinutes() {
        String ab = "town boys 0;place a;place b;place c;";
        ThirdWitness x = town(ab + "person p babe at a wit 0;goes p b at 30");
        Check.granted(x, "square() of 30 and 30", x.square(), 0);
        ThirdWitness y = town(ab + "person p babe at a wit 0;goes p c at 29;goes p b at 30");
        Check.granted(y, "square() of 29, 30 and 1", y.square(), 1);
        ThirdWitness z = town(ab + "person p babe at b wit 0;goes p a at 30");
        Check.granted(z, "square() of 30 and 30, the other way", z.square(), 0);
        ThirdWitness last = town(SIX + "person p babe at f wit 0");
        Check.granted(last, "square(), the last place", last.square(), 5);
        ThirdWitness none = town(SIX + "person p blind at f wit 0");
        Check.granted(none, "square() without eyes", none.square(), 0);
    }

    private static void fiveAndSixEyes() {
        String text = "town boys 0;place a;place b;" + XY + "person u KIND at a wit 0;person v plain at a wit 0;person w babe at a wit 0;"
            + "person t OTHER at a wit 0;quarrel q x y at a from 3 needs 9";
        String[] kinds = {"plain", "babe", "blind"};
        int[] eyes = {2, 1, 0};
        for (int i = 0; i < 3; i++) {
            for (int k = 0; k < 3; k++) {
                ThirdWitness x = town(text.replace("KIND", kinds[i]).replace("OTHER", kinds[k]));
                boolean stopped = eyes[i] + 2 + 1 + eyes[k] >= 6;
                Check.granted(x, "ends(0) by " + (eyes[i] + 3 + eyes[k]), x.ends(0), stopped ? 0 : 1);
                Check.granted(x, "eyes", x.eyes(0, 3), 4 + 3 + eyes[i] + eyes[k]);
                Check.granted(x, "three(0, 3)", x.three(0, 3) == -2 ? 0 : 1, 1);
            }
        }
        // exactly six by three, five, seven and eight by four, twelve are never: the two don't count
        ThirdWitness three = town("town boys 0;place a;" + XY + UVW + "quarrel q x y at a from 0 needs 9");
        ends(three, 0, 0, 0, 1000, 28, 2);
        ThirdWitness two = town("town boys 0;place a;" + XY + UVW.replace("w plain", "w babe") + "quarrel q x y at a from 0 needs 9");
        ends(two, 0, 1, 0, 1009, 28, -2);
    }

    private static void needs() {
        // a gain of 1 a minute from 0 on: won at minute needs - 1, or open from 61 on
        for (int needs = 1; needs <= 99; needs++) {
            ThirdWitness x = town("town boys 0;place a;person x plain at a wit 1;person y plain at a wit 0;"
                + "quarrel q x y at a from 0 needs " + needs + ";quarrel r y x at a from 0 needs " + needs);
            boolean won = needs <= 60;
            ends(x, 0, won ? 1 : -2, won ? needs - 1 : -2, 1000 + (won ? needs : 60), 0, -2);
            ends(x, 1, won ? 2 : -2, won ? needs - 1 : -2, 1000 - (won ? needs : 60), 0, -2);
        }
        // all gains: the first minute at which what they differ by is as much as it needs or more
        for (int gain = -9; gain <= 9; gain++) {
            for (int needs : new int[] {1, 2, 8, 9, 10, 17, 18, 19, 54, 98, 99}) {
                ThirdWitness x = town("town boys 0;place a;person x plain at a wit " + Math.max(gain, 0)
                    + ";person y plain at a wit " + Math.max(-gain, 0) + ";quarrel q x y at a from 2 needs " + needs);
                int minutes = gain == 0 ? 99 : (needs + Math.abs(gain) - 1) / Math.abs(gain);
                boolean won = minutes <= 58;
                ends(x, 0, won ? gain > 0 ? 1 : 2 : -2, won ? 1 + minutes : -2, 1000 + gain * Math.min(minutes, 58), 0, -2);
            }
        }
    }

    private static void leads() {
        // the last two of six
        ThirdWitness last = town("town boys 0;place a;place b;" + UVW.replace("at a", "at b") + "person t babe at b wit 0;"
            + XY.replace("wit 0", "wit 8") + "quarrel q x y at a from 0 needs 3;quarrel r y x at a from 0 needs 3");
        ends(last, 0, 1, 2, 1003, 0, -2);
        ends(last, 1, 2, 2, 997, 0, -2);
        ThirdWitness x = town("town boys 0;place a;" + XY + "quarrel q x y at a from 0 needs 99;quarrel r y x at a from 0 needs 99;"
            + "quarrel s x y at a from 50 needs 91");
        ends(x, 0, 1, 10, 1099, 0, -2);
        ends(x, 1, 2, 10, 901, 0, -2);
        ends(x, 2, -2, -2, 1090, 0, -2);
        // the most that may be: 98, and 8 more
        ThirdWitness y = town("town boys 0;place a;person x plain at a wit 8;person y plain at a wit 0;"
            + "quarrel q x y at a from 0 needs 97;quarrel r y x at a from 0 needs 89");
        ends(y, 0, 1, 12, 1104, 0, -2);
        ends(y, 1, 2, 11, 904, 0, -2);
    }

    private static void firstAndLastMinutes() {
        String stopped = "town boys 0;place a;place b;" + XY + UVW.replace("at a", "at b");
        String come = "goes u a at 59;goes v a at 58;goes w a at 1;";
        ends(town(stopped + come + "quarrel q x y at a from 59 needs 99"), 0, 0, 59, 1000, 28, 2);
        ends(town(stopped + come + "quarrel q x y at a from 58 needs 99"), 0, 0, 59, 1009, 28, 2);
        ends(town(stopped + come + "quarrel q x y at a from 58 needs 9"), 0, 1, 58, 1009, 24, -2);
        ends(town(stopped + come + "quarrel q x y at a from 58 needs 10"), 0, 0, 59, 1009, 28, 2);
        ends(town(stopped + come.substring(15) + "quarrel q x y at a from 58 needs 99"), 0, -2, -2, 1018, 24, -2);
        ends(town(stopped + come + "quarrel q x y at b from 0 needs 1"), 0, 0, 0, 1000, 28, 2);
        ends(town(stopped + come + "quarrel q x y at b from 1 needs 1"), 0, 1, 1, 1009, 12, -2);
        ends(town(stopped + come + "quarrel q x y at b from 59 needs 9"), 0, 1, 59, 1009, 0, -2);
        ends(town(stopped + come + "quarrel q x y at b from 59 needs 10"), 0, -2, -2, 1009, 0, -2);
        // who comes at the 59th minute has seen it, too
        ends(town(stopped + "goes u a at 59;quarrel q x y at a from 53 needs 99"), 0, -2, -2, 1063, 4, -2);
        // who comes behind the minute at which it is won has not
        ends(town(stopped + "goes u a at 10;quarrel q x y at a from 0 needs 90"), 0, 1, 9, 1090, 0, -2);
        ends(town(stopped + "goes u a at 9;quarrel q x y at a from 0 needs 90"), 0, 1, 9, 1090, 4, -2);
    }

    private static void notAheadOfItsMinute() {
        // u sees the place until minute 4 alone
        String text = "town boys 0;place a;place b;" + XY + UVW + "goes u b at 5;";
        ends(town(text + "quarrel q x y at a from 4 needs 99"), 0, 0, 4, 1000, 28, 2);
        ends(town(text + "quarrel q x y at a from 5 needs 99"), 0, 1, 15, 1099, 24, -2);
    }

    private static void stoppedAheadOfWon() {
        // at minute 10 the third one comes, and the lead would be 99
        String text = "town boys 0;place a;place b;" + XY + UVW.replace("w plain at a", "w plain at b");
        ends(town(text + "goes w a at 10;quarrel q x y at a from 0 needs 99"), 0, 0, 10, 1090, 28, 4);
        ends(town(text + "goes w a at 11;quarrel q x y at a from 0 needs 99"), 0, 1, 10, 1099, 12, -2);
        ends(town(text + "goes w a at 9;quarrel q x y at a from 0 needs 99"), 0, 0, 9, 1081, 28, 4);
    }

    /** third() is of the quarrel asked for, whichever was looked at ahead of it. */
    private static void thirdOfSeveral() {
        String text = "town boys 0;place a;place b;" + XY + UVW + "quarrel q x y at a from 0 needs 9;quarrel r x y at b from 0 needs 9;"
            + "quarrel s x u at b from 0 needs 9";
        ThirdWitness x = town(text);
        for (int i = 0; i < 2; i++) {
            Check.granted(x, "third(0)", x.third(0), 2);
            Check.granted(x, "third(1)", x.third(1), -2);
            Check.granted(x, "third(0)", x.third(0), 2);
            Check.granted(x, "third(2)", x.third(2), -2);
        }
        // the first one and the last one of all; who saw it first, not who sees it
        ThirdWitness first = town("town boys 0;place a;place b;person p plain at b wit 0;person x plain at b wit 5;person y plain at b wit 0;"
            + "person q plain at a wit 0;person r plain at a wit 0;goes p a at 7;quarrel e x y at a from 0 needs 99");
        ends(first, 0, 0, 7, 1035, 25, 0);
        ThirdWitness last = town("town boys 0;place a;place b;person p plain at a wit 0;person x plain at b wit 5;person y plain at b wit 0;"
            + "person q plain at a wit 0;person s babe at a wit 0;person r babe at b wit 0;goes r a at 7;quarrel e x y at a from 0 needs 99");
        ends(last, 0, 0, 7, 1035, 57, 5);
    }

    private static void wonAndLed() {
        String people = "town boys 0;place a;place b;" + XY + "person u plain at b wit 9;" + VW;
        String[] quarrels = {"x y at b from 0 needs 9", "y x at b from 0 needs 9", "x u at b from 0 needs 9"};
        int[] how = {1, 2, -2};
        for (int i = 0; i < 27; i++) {
            int[] kinds = {i % 3, i / 3 % 3, i / 9};
            String text = people;
            int won = 0;
            int[] open = {-1, -1, -1};
            int opens = 0;
            for (int q = 0; q < 3; q++) {
                text += "quarrel q" + "abc".charAt(q) + " " + quarrels[kinds[q]] + (q < 2 ? ";" : "");
                won |= how[kinds[q]] > 0 ? 1 << q : 0;
                if (how[kinds[q]] == -2) {
                    open[opens++] = q;
                }
            }
            ThirdWitness x = town(text);
            Check.granted(x, "won() of " + text, x.won(), won);
            for (int k = 0; k < opens; k++) {
                Check.due("led(" + k + ")", x.led(k), open[k]);
            }
            int many = opens;
            Check.throwsNoSuchElement("led(" + many + ")", () -> x.led(many) > 0);
            Check.throwsNoSuchElement("led(-1)", () -> x.led(-1) > 0);
        }
        // led as the first call behind acts
        ThirdWitness y = town("town boys 0;place a;place b;sees b a;" + XY.replace("9", "0") + UVW.replace("at a", "at b")
            + "quarrel q x y at a from 0 needs 9;hire u for 0");
        Check.throwsNoSuchElement("led(0)", () -> y.led(0) > 0);
        Check.yes("brick(0)", y.brick(0));
        Check.due("led(0), bricked up", y.led(0), 0);
        Check.yes("undo()", y.undo());
        Check.throwsNoSuchElement("led(0)", () -> y.led(0) > 0);
        Check.due("hire", y.hire(2, 1), 0);
        Check.throwsNoSuchElement("led(0)", () -> y.led(0) > 0);
    }

    private static void nurse() {
        // one babe more makes it: the last one, or the first one, of six
        ThirdWitness last = town("town boys 0;place a;person x plain at a wit 9;person y plain at a wit 0;person u plain at a wit 0;"
            + "person v babe at a wit 0;person w plain at a wit 0;person t babe at a wit 0;quarrel q x y at a from 0 needs 9");
        Check.granted(last, "nurse(): stopped anyway", last.nurse(), -2);
        ThirdWitness five = town("town boys 0;place a;place b;person x plain at a wit 9;person y plain at a wit 0;person u plain at a wit 0;"
            + "person v plain at a wit 0;person w blind at b wit 0;person t blind at a wit 0;quarrel q x y at a from 0 needs 9");
        Check.granted(five, "nurse(), the last one", five.nurse(), 5);
        ThirdWitness first = town("town boys 0;place a;person t babe at a wit 0;person x plain at a wit 9;person y plain at a wit 0;"
            + "person u plain at a wit 0;person v plain at a wit 0;person w blind at a wit 0;quarrel q x y at a from 0 needs 9");
        Check.granted(first, "nurse(), the first such", first.nurse(), 0);
        ThirdWitness two = town("town boys 0;place a;person x babe at a wit 9;person y blind at a wit 0;person u plain at a wit 0;"
            + "person v plain at a wit 0;quarrel q x y at a from 0 needs 9");
        Check.granted(two, "nurse() of the two alone", two.nurse(), -2);
    }
}
