/** Promises 6 to 14: people, sights, quarrels; who is where, who sees what. */
public final class NowTest {
    /** inn 0, yard 1, lane 2; sights 0 yard to inn, 1 lane to yard; ann 0, bob 1, cyd 2, dan 3. */
    private static final String TEXT = "town boys 20;place inn;place yard;place lane;sees yard inn;sees lane yard;"
        + "person ann plain at inn wit 5;person bob deaf at inn wit 3;person cyd blind at yard wit 0;"
        + "person dan babe at lane wit 9;goes dan yard at 3;goes dan inn at 9;"
        + "quarrel row ann bob at inn from 2 needs 20;quarrel tiff dan ann at yard from 7 needs 9;"
        + "hire cyd for 4;hire dan for 0";

    private NowTest() {
    }

    public static void main(String[] args) {
        promise6Person();
        promise7Sight();
        promise8Quarrel();
        promise9At();
        promise10Into();
        promise11Watchers();
        promise12Eyes();
        promise13Hidden();
        promise14Square();
        noTown();
        Check.close();
    }

    private static void promise6Person() {
        ThirdWitness x = Check.town(TEXT);
        int[][] due = {
            {0, 5, 2, -2, -2, 3},
            {1, 3, 2, -2, -2, 1},
            {2, 0, 0, 4, -2, 0},
            {3, 9, 1, 0, -2, 2},
        };
        for (int p = 0; p < 4; p++) {
            for (int what = 0; what <= 5; what++) {
                Check.granted(x, "person(" + p + ", " + what + ")", x.person(p, what), due[p][what]);
            }
        }
        Check.due("hire(3, 0)", x.hire(3, 0), 0);
        Check.granted(x, "person(3, 4)", x.person(3, 4), 0);
        Check.due("hire(2, 2)", x.hire(2, 2), 4);
        Check.granted(x, "person(2, 4)", x.person(2, 4), 2);
        Check.granted(x, "person(0, 4)", x.person(0, 4), -2);
        Check.refused(x, "person(4, 0)", x.person(4, 0), 1);
        Check.refused(x, "person(-1, 0)", x.person(-1, 0), 1);
        Check.refused(x, "person(0, 6)", x.person(0, 6), 1);
        Check.refused(x, "person(0, -1)", x.person(0, -1), 1);
    }

    private static void promise7Sight() {
        ThirdWitness x = Check.town(TEXT);
        int[][] due = {{1, 0, 0}, {2, 1, 0}};
        for (int k = 0; k < 2; k++) {
            for (int what = 0; what <= 2; what++) {
                Check.granted(x, "sight(" + k + ", " + what + ")", x.sight(k, what), due[k][what]);
            }
        }
        Check.yes("brick(1)", x.brick(1));
        Check.granted(x, "sight(1, 2)", x.sight(1, 2), 1);
        Check.granted(x, "sight(0, 2)", x.sight(0, 2), 0);
        Check.granted(x, "sight(1, 0)", x.sight(1, 0), 2);
        Check.refused(x, "sight(2, 0)", x.sight(2, 0), 1);
        Check.refused(x, "sight(-1, 0)", x.sight(-1, 0), 1);
        Check.refused(x, "sight(0, 3)", x.sight(0, 3), 1);
        Check.refused(x, "sight(0, -1)", x.sight(0, -1), 1);
    }

    private static void promise8Quarrel() {
        ThirdWitness x = Check.town(TEXT);
        int[][] due = {{0, 1, 0, 2, 20}, {3, 0, 1, 7, 9}};
        for (int q = 0; q < 2; q++) {
            for (int what = 0; what <= 4; what++) {
                Check.granted(x, "quarrel(" + q + ", " + what + ")", x.quarrel(q, what), due[q][what]);
            }
        }
        Check.refused(x, "quarrel(2, 0)", x.quarrel(2, 0), 1);
        Check.refused(x, "quarrel(-1, 0)", x.quarrel(-1, 0), 1);
        Check.refused(x, "quarrel(0, 5)", x.quarrel(0, 5), 1);
        Check.refused(x, "quarrel(0, -1)", x.quarrel(0, -1), 1);
    }

    private static void promise9At() {
        ThirdWitness x = Check.town(TEXT);
        int[][] due = {{0, 2}, {2, 2}, {3, 1}, {8, 1}, {9, 0}, {59, 0}};
        for (int[] d : due) {
            Check.granted(x, "at(3, " + d[0] + ")", x.at(3, d[0]), d[1]);
        }
        // quarrels aside: tiff has dan and ann in the yard from 7 on
        Check.granted(x, "at(0, 7)", x.at(0, 7), 0);
        Check.due("hire(3, 2)", x.hire(3, 2), 0);
        Check.granted(x, "at(3, 0)", x.at(3, 0), 2);
        Check.granted(x, "at(3, 59): always where he was sent", x.at(3, 59), 2);
        Check.yes("dismiss(3)", x.dismiss(3));
        Check.granted(x, "at(3, 59)", x.at(3, 59), 0);
        Check.refused(x, "at(4, 0)", x.at(4, 0), 1);
        Check.refused(x, "at(-1, 60)", x.at(-1, 60), 1);
        Check.refused(x, "at(0, 60)", x.at(0, 60), 2);
        Check.refused(x, "at(0, -1)", x.at(0, -1), 2);
    }

    private static void promise10Into() {
        ThirdWitness x = Check.town(TEXT);
        Check.granted(x, "into(0)", x.into(0), 1);
        Check.granted(x, "into(1)", x.into(1), 3);
        Check.granted(x, "into(2): sights don't go on", x.into(2), 6);
        Check.yes("brick(0)", x.brick(0));
        Check.granted(x, "into(1) bricked up", x.into(1), 2);
        Check.granted(x, "into(2)", x.into(2), 6);
        Check.refused(x, "into(3)", x.into(3), 1);
        Check.refused(x, "into(-1)", x.into(-1), 1);
    }

    private static void promise11Watchers() {
        ThirdWitness x = Check.town(TEXT);
        int[][] due = {{0, 0, 7}, {0, 3, 15}, {0, 9, 15}, {1, 0, 12}, {1, 9, 4}, {2, 0, 8}, {2, 3, 0}, {2, 59, 0}};
        for (int[] d : due) {
            Check.granted(x, "watchers(" + d[0] + ", " + d[1] + ")", x.watchers(d[0], d[1]), d[2]);
        }
        Check.yes("brick(0)", x.brick(0));
        Check.granted(x, "watchers(0, 3)", x.watchers(0, 3), 3);
        Check.due("hire(2, 2)", x.hire(2, 2), 4);
        Check.granted(x, "watchers(1, 3)", x.watchers(1, 3), 12);
        Check.granted(x, "watchers(2, 3)", x.watchers(2, 3), 4);
        Check.refused(x, "watchers(3, 0)", x.watchers(3, 0), 1);
        Check.refused(x, "watchers(-1, 60)", x.watchers(-1, 60), 1);
        Check.refused(x, "watchers(0, 60)", x.watchers(0, 60), 2);
        Check.refused(x, "watchers(0, -1)", x.watchers(0, -1), 2);
    }

    private static void promise12Eyes() {
        ThirdWitness x = Check.town(TEXT);
        int[][] due = {{0, 0, 4}, {0, 3, 5}, {1, 0, 1}, {1, 9, 0}, {2, 0, 1}, {2, 3, 0}};
        for (int[] d : due) {
            Check.granted(x, "eyes(" + d[0] + ", " + d[1] + ")", x.eyes(d[0], d[1]), d[2]);
        }
        Check.refused(x, "eyes(3, 0)", x.eyes(3, 0), 1);
        Check.refused(x, "eyes(-1, 60)", x.eyes(-1, 60), 1);
        Check.refused(x, "eyes(0, 60)", x.eyes(0, 60), 2);
        Check.refused(x, "eyes(0, -1)", x.eyes(0, -1), 2);
    }

    private static void promise13Hidden() {
        ThirdWitness x = Check.town(TEXT);
        Check.granted(x, "hidden(0)", x.hidden(0), 0);
        Check.granted(x, "hidden(3)", x.hidden(3), 4);
        // the yard is seen by cyd alone then, who is blind
        Check.granted(x, "hidden(9)", x.hidden(9), 6);
        Check.yes("brick(1)", x.brick(1));
        Check.granted(x, "hidden(0)", x.hidden(0), 2);
        Check.refused(x, "hidden(60)", x.hidden(60), 2);
        Check.refused(x, "hidden(-1)", x.hidden(-1), 2);
        ThirdWitness nobody = Check.town("town boys 0;place a;place b");
        Check.granted(nobody, "hidden(5) of nobody", nobody.hidden(5), 3);
    }

    private static void promise14Square() {
        ThirdWitness x = Check.town(TEXT);
        Check.granted(x, "square()", x.square(), 0);
        ThirdWitness y = Check.town("town boys 0;place a;place b;place c;person x plain at a wit 0;"
            + "goes x b at 20;goes x c at 41;hire x for 0");
        // 20, 21 and 19 minutes
        Check.granted(y, "square()", y.square(), 1);
        Check.due("hire(0, 2)", y.hire(0, 2), 0);
        Check.granted(y, "square()", y.square(), 2);
        ThirdWitness like = Check.town("town boys 0;place a;place b;place c;person x babe at c wit 0;goes x b at 30");
        Check.granted(like, "square(), the first such", like.square(), 1);
        ThirdWitness seen = Check.town("town boys 0;place a;place b;place c;sees c b;sees a b;person x plain at c wit 0;"
            + "person y babe at a wit 0");
        Check.granted(seen, "square()", seen.square(), 1);
        Check.yes("brick(1)", seen.brick(1));
        Check.granted(seen, "square()", seen.square(), 1);
        Check.yes("brick(0)", seen.brick(0));
        Check.granted(seen, "square()", seen.square(), 2);
        ThirdWitness nobody = Check.town("town boys 0;place a;place b");
        Check.granted(nobody, "square() of nobody", nobody.square(), 0);
    }

    private static void noTown() {
        ThirdWitness x = new ThirdWitness();
        Check.refused(x, "person", x.person(0, 0), 1);
        Check.refused(x, "sight", x.sight(0, 0), 1);
        Check.refused(x, "quarrel", x.quarrel(0, 0), 1);
        Check.refused(x, "at", x.at(0, 60), 1);
        Check.refused(x, "into", x.into(0), 1);
        Check.refused(x, "watchers", x.watchers(0, 60), 1);
        Check.refused(x, "eyes", x.eyes(0, 60), 1);
        Check.refused(x, "hidden", x.hidden(60), 1);
        Check.refused(x, "square", x.square(), 1);
    }
}
