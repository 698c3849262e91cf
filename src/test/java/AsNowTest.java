import java.util.NoSuchElementException;

/**
 * NOW: promises 9 to 31, 39, 40, 44 to 47 and 56 look at the town with what is bricked up and with those who are hired,
 * and at the town as told again as soon as that is taken back; promises 32 to 38 look at it as told, always.
 */
public final class AsNowTest {
    /**
     * x 0, y 1 and w 4 are at a; v 3 at b, u 2 at e, t 5 at c. From b one sees into a and d, from c into b, from e into
     * a and b. The first quarrel is stopped by the eyes of w, v, u; the second one is won, as v, t, u have five eyes;
     * the third one of two of like wit is stopped by x, y, u.
     */
    private static final String TOWN = "town boys 0;place a;place b;place c;place d;place e;"
        + "sees b a;sees c b;sees b d;sees e a;sees e b;"
        + "person x plain at a wit 3;person y plain at a wit 1;person u plain at e wit 1;person v deaf at b wit 1;"
        + "person w plain at a wit 1;person t babe at c wit 1;"
        + "quarrel q x y at a from 5 needs 6;quarrel r x y at b from 0 needs 2;quarrel s w v at a from 58 needs 9;"
        + "hire u for 4;hire v for 3;hire t for 3";
    private static final int THROWN = -9;

    private interface Look {
        long at(ThirdWitness x);
    }

    private static final class Row {
        final String call;
        final Look look;
        final long told;
        final long bricked;
        final long hired;

        Row(String call, Look look, long told, long bricked, long hired) {
            this.call = call;
            this.look = look;
            this.told = told;
            this.bricked = bricked;
            this.hired = hired;
        }
    }

    /** Each call, its answer as told, with all sights bricked up, with u hired to d. */
    private static final Row[] ROWS = {
        new Row("at(2, 0)", x -> x.at(2, 0), 4, 4, 3),
        new Row("into(1)", x -> x.into(1), 11, 2, 11),
        new Row("watchers(0, 0)", x -> x.watchers(0, 0), 31, 19, 27),
        new Row("eyes(0, 0)", x -> x.eyes(0, 0), 10, 6, 8),
        // nobody else sees into d but from b, and nobody but u is at e
        new Row("hidden(0)", x -> x.hidden(0), 0, 8, 16),
        new Row("ends(0)", x -> x.ends(0), 0, 1, 1),
        new Row("endsAt(0)", x -> x.endsAt(0), 5, 7, 7),
        new Row("lead(0)", x -> x.lead(0), 1000, 1006, 1006),
        new Row("seen(0)", x -> x.seen(0), 28, 16, 24),
        new Row("third(0)", x -> x.third(0), 2, -2, -2),
        new Row("won()", x -> x.won(), 2, 3, 3),
        // t sees the second one with v and u; without one of them she isn't enough
        new Row("nurse()", x -> x.nurse(), 5, -2, -2),
        new Row("endsIf(0, 0, 6)", x -> x.endsIf(0, 0, 6), 0, 1, 1),
        new Row("cellars(0)", x -> x.cellars(0), 30, 31, 31),
        new Row("hour(0)", x -> x.hour(0), -2, 0, 0),
        new Row("longest(0)", x -> x.longest(0), 1, 0, 0),
        new Row("moor(0)", x -> x.moor(0), 1, 0, 0),
        new Row("bricks(0)", x -> x.bricks(0), 1, 0, 0),
        // w sees it alone behind bricks: u and v must come; u is hired: v and t aren't enough
        new Row("stoppers(0)", x -> x.stoppers(0), 0, 12, -2),
        new Row("price(0)", x -> x.price(0), 0, 7, -2),
        new Row("stoppedIf(5, 0)", x -> x.stoppedIf(5, 0), 5, 0, 0),
        // u at a makes six eyes for the third one
        new Row("bestHire()", x -> x.bestHire(), -2, 20, 20),
        new Row("swings(2, 0, 0, false)", x -> x.swings(2, 0, 0, false), 3, 0, 0),
        new Row("swings(2, 0, 0, true)", x -> x.swings(2, 0, 0, true), 8, 1, 1),
        new Row("three(0, 0)", x -> x.three(0, 0), 7, 19, 11),
        new Row("lasts(0, 6, false)", x -> x.lasts(0, 6, false), 0, 1, 1),
        new Row("endsBy(0, 7)", x -> x.endsBy(0, 7), 0, 1, 1),
        new Row("endsByAt(0, 7)", x -> x.endsByAt(0, 7), 5, 7, 7),
        new Row("wins(0, 7, 3)", x -> x.wins(0, 7, 3), 0, 3, 3),
        new Row("led(0)", AsNowTest::firstOpen, THROWN, 2, 2),
    };

    private AsNowTest() {
    }

    public static void main(String[] args) {
        undone();
        openedAndDismissed();
        backToImages();
        square();
        fitsAsTold();
        Check.close();
    }

    private static long firstOpen(ThirdWitness x) {
        try {
            return x.led(0);
        } catch (NoSuchElementException e) {
            return THROWN;
        }
    }

    private static void told(ThirdWitness x, String when) {
        for (Row row : ROWS) {
            Check.due(row.call + " " + when, row.look.at(x), row.told);
        }
    }

    private static void bricked(ThirdWitness x) {
        for (Row row : ROWS) {
            Check.due(row.call + " with sights bricked up", row.look.at(x), row.bricked);
        }
    }

    private static void hired(ThirdWitness x) {
        for (Row row : ROWS) {
            Check.due(row.call + " with one hired", row.look.at(x), row.hired);
        }
    }

    private static void brickAll(ThirdWitness x) {
        for (int k = 0; k < 5; k++) {
            Check.yes("brick(" + k + ")", x.brick(k));
        }
    }

    private static void undone() {
        ThirdWitness x = Check.town(TOWN);
        told(x, "as told");
        brickAll(x);
        bricked(x);
        for (int k = 0; k < 5; k++) {
            Check.yes("undo()", x.undo());
        }
        told(x, "with all undone");
        Check.due("hire(2, 3)", x.hire(2, 3), 4);
        hired(x);
        Check.yes("undo()", x.undo());
        told(x, "with all undone");
    }

    private static void openedAndDismissed() {
        ThirdWitness x = Check.town(TOWN);
        brickAll(x);
        for (int k = 0; k < 5; k++) {
            Check.yes("open(" + k + ")", x.open(k));
        }
        told(x, "with all opened");
        Check.due("hire(2, 3)", x.hire(2, 3), 4);
        hired(x);
        Check.yes("dismiss(2)", x.dismiss(2));
        told(x, "with one dismissed");
        brickAll(x);
        bricked(x);
    }

    private static void backToImages() {
        ThirdWitness x = Check.town(TOWN);
        Check.due("image()", x.image(), 0);
        brickAll(x);
        Check.due("image()", x.image(), 1);
        Check.yes("back(0)", x.back(0));
        told(x, "back at the first image");
        Check.due("hire(2, 3)", x.hire(2, 3), 4);
        Check.due("image()", x.image(), 2);
        Check.yes("back(1)", x.back(1));
        bricked(x);
        Check.yes("back(2)", x.back(2));
        hired(x);
        Check.yes("back(0)", x.back(0));
        told(x, "back at the first image again");
    }

    /** Promise 14: two at b, two at c; from b one sees into a. */
    private static void square() {
        ThirdWitness x = Check.town("town boys 0;place a;place b;place c;sees b a;person u plain at b wit 1;"
            + "person v plain at b wit 1;person w plain at c wit 1;person t plain at c wit 1;hire v for 0");
        Check.due("square() as told", x.square(), 0);
        Check.yes("brick(0)", x.brick(0));
        Check.due("square() with the sight bricked up", x.square(), 1);
        Check.yes("undo()", x.undo());
        Check.due("hire(1, 2)", x.hire(1, 2), 0);
        Check.due("square() with one hired", x.square(), 2);
        Check.yes("undo()", x.undo());
        Check.due("square() with all undone", x.square(), 0);
    }

    /** Stopped by u, v, w as told; with v's other wit nothing else comes of it, with x's neither. */
    private static void fitsAsTold() {
        ThirdWitness x = Check.town(TOWN + ";unsure x 9;unsure v 2;ended q at 5;ended r at 0;ended s at 58");
        for (int state = 0; state < 3; state++) {
            if (state == 1) {
                brickAll(x);
            } else if (state == 2) {
                Check.due("hire(2, 3)", x.hire(2, 3), 4);
            }
            Check.due("fits()", x.fits(), 4);
            Check.due("fitAt(3)", x.fitAt(3), 3);
            Check.due("could()", x.could(), 3);
            Check.due("surely()", x.surely(), 0);
            Check.due("ask()", x.ask(), 0);
            Check.due("askLeaves()", x.askLeaves(), 2);
            Check.due("judge()", x.judge(), -2);
        }
    }
}
