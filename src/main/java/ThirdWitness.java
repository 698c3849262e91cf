import java.util.Arrays;
import java.util.NoSuchElementException;

/** Quarrels of a town that end at the third witness; the document's promises are named at each call. */
public final class ThirdWitness {
    public static final int NONE = -1;

    /** An answer that says: asked well, but there isn't any. */
    private static final int NOT = -2;
    /** What says() answers when refused; NONE could be somebody's due there. */
    private static final int NO_DUE = -100;

    private static final int GONE_WELL = 0;
    private static final int NO_SUCH = 1;
    private static final int BAD_NUMBER = 2;
    private static final int NO_ROOM = 3;
    private static final int FAULTY = 4;
    private static final int NOT_SO = 5;
    private static final int NOTHING = 6;

    private static final int TAPE_ROOM = 900;
    private static final int FEED_BYTES = 20;

    /** What a town counts, by the numbers that size() takes. */
    private static final int BOYS = 0;
    private static final int PLACES = 1;
    private static final int SIGHTS = 2;
    private static final int PEOPLE = 3;
    private static final int GOINGS = 4;
    private static final int QUARRELS = 5;
    private static final int HIRABLE = 6;
    private static final int UNSURE = 7;
    private static final int ENDED = 8;
    private static final int TOLD_COUNTS = 9;

    private static final int MOST_PLACES = 6;
    private static final int MOST_SIGHTS = 8;
    private static final int MOST_PEOPLE = 6;
    private static final int MOST_GOINGS = 10;
    private static final int MOST_QUARRELS = 3;
    private static final int MOST_UNSURE = 4;
    private static final int MINUTES = 60;

    private static final int PLAIN = 0;
    private static final int DEAF = 1;
    private static final int BLIND = 2;
    private static final int BABE = 3;
    private static final int PLAIN_EYES = 2;
    /** So many eyes are three witnesses. */
    private static final int ENOUGH_EYES = 6;

    /** What quarrel() tells, by its numbers. */
    private static final int FIRST_ONE = 0;
    private static final int OTHER_ONE = 1;
    private static final int ITS_PLACE = 2;
    private static final int ITS_MINUTE = 3;
    private static final int ITS_NEED = 4;
    private static final int QUARREL_FACTS = 5;

    /** How a quarrel ends, by what ends() answers. */
    private static final int STOPPED = 0;
    private static final int WON_BY_FIRST = 1;
    private static final int WON_BY_OTHER = 2;

    private static final int MOST_HEAT = 9;
    private static final int MOST_LASTING = 6;
    private static final int SEEDS = 65537;
    private static final int MOST_TIMES = 30;
    /** Euclid's steps for two longs stay under a hundred. */
    private static final int MOST_STEPS = 200;

    private final byte[] tape = new byte[TAPE_ROOM];
    private int taped;
    private Town town = new Town();
    private Town draft = new Town();
    private final Reader reader = new Reader(tape, draft);
    private final Acts acts = new Acts();
    private final Scene scene = new Scene(town);
    private final Course course = new Course(scene);
    private final Guesses guesses = new Guesses(scene, course);
    private final Doubts doubts = new Doubts(scene, course);
    private int fault;
    private int faultPlace;
    private int trouble;

    /** Promise 1. */
    public ThirdWitness() {
    }

    // ---- the town

    /** Promise 2. */
    public int feed(int a, int b, int c, int d, int e) {
        if (taped + FEED_BYTES > TAPE_ROOM) {
            return NONE;
        }
        tapeNumber(a);
        tapeNumber(b);
        tapeNumber(c);
        tapeNumber(d);
        tapeNumber(e);
        return taped;
    }

    private void tapeNumber(int number) {
        for (int shift = 24; shift >= 0; shift -= 8) {
            if (taped >= 0 && taped < tape.length) {
                tape[taped] = (byte) (number >> shift);
                taped++;
            }
        }
    }

    /** Promise 3. */
    public int town(int n) {
        if (n < 0 || n > taped) {
            return refuse(BAD_NUMBER);
        }
        boolean good = reader.readTown(draft, n);
        taped = 0;
        fault = reader.fault;
        faultPlace = reader.faultPlace;
        if (!good) {
            return refuse(FAULTY);
        }
        Town former = town;
        town = draft;
        draft = former;
        acts.forget();
        return grant(town.count(PLACES));
    }

    /** Promise 4. */
    public int fault() {
        return fault;
    }

    /** Promise 5. */
    public int where() {
        return trouble == FAULTY ? faultPlace : NONE;
    }

    // ---- now

    /** Promise 6. */
    public int person(int p, int what) {
        if (!isPerson(p) || what < 0 || what > 5) {
            return refuse(NO_SUCH);
        }
        switch (what) {
            case 0:
                return grant(Rows.get(town.kinds, p));
            case 1:
                return grant(Rows.get(town.wits, p));
            case 2:
                return grant(town.eyesByKind(p));
            case 3:
                return grant(Rows.get(town.prices, p));
            case 4:
                return grant(acts.isHired(p) ? Acts.sentTo(acts.sent, p) : NOT);
            default:
                return grant(town.quarrelsOf(p));
        }
    }

    /** Promise 7. */
    public int sight(int k, int what) {
        if (!isSight(k) || what < 0 || what > 2) {
            return refuse(NO_SUCH);
        }
        if (what == 2) {
            return grant(acts.bricked >> k & 1);
        }
        return grant(what == 0 ? Rows.get(town.sightsFrom, k) : Rows.get(town.sightsInto, k));
    }

    /** Promise 8. */
    public int quarrel(int q, int what) {
        if (!isQuarrel(q) || what < 0 || what >= QUARREL_FACTS) {
            return refuse(NO_SUCH);
        }
        return grant(town.fact(q, what));
    }

    /** Promise 9. */
    public int at(int p, int minute) {
        if (!isPerson(p)) {
            return refuse(NO_SUCH);
        }
        if (!isMinute(minute)) {
            return refuse(BAD_NUMBER);
        }
        showNow();
        return grant(scene.spotOf(p, minute));
    }

    /** Promise 10. */
    public int into(int place) {
        if (!isPlace(place)) {
            return refuse(NO_SUCH);
        }
        showNow();
        return grant(scene.viewFrom(place));
    }

    /** Promise 11. */
    public int watchers(int place, int minute) {
        if (mayNotLook(place, minute)) {
            return NONE;
        }
        return grant(scene.seers(place, minute));
    }

    /** Promise 12. */
    public int eyes(int place, int minute) {
        if (mayNotLook(place, minute)) {
            return NONE;
        }
        return grant(scene.eyesOf(scene.seers(place, minute)));
    }

    /** Promise 13. */
    public int hidden(int minute) {
        if (!hasTown()) {
            return refuse(NO_SUCH);
        }
        if (!isMinute(minute)) {
            return refuse(BAD_NUMBER);
        }
        showNow();
        int unseen = 0;
        for (int place = 0; place < town.count(PLACES); place++) {
            // all but blind ones have eyes, so no eyes mean none but blind ones
            if (scene.eyesOf(scene.seers(place, minute)) == 0) {
                unseen |= 1 << place;
            }
        }
        return grant(unseen);
    }

    /** Promise 14. */
    public int square() {
        if (!hasTown()) {
            return refuse(NO_SUCH);
        }
        showNow();
        int best = 0;
        int most = -1;
        for (int place = 0; place < town.count(PLACES); place++) {
            int sum = 0;
            for (int minute = 0; minute < MINUTES; minute++) {
                sum += scene.eyesOf(scene.seers(place, minute));
            }
            if (sum > most) {
                most = sum;
                best = place;
            }
        }
        return grant(best);
    }

    // ---- quarrels

    /** Promise 15. */
    public int ends(int q) {
        return runsNow(q) ? grant(course.how) : NONE;
    }

    /** Promise 16. */
    public int endsAt(int q) {
        return runsNow(q) ? grant(course.minute) : NONE;
    }

    /** Promise 17. */
    public int lead(int q) {
        return runsNow(q) ? grant(course.ahead + 1000) : NONE;
    }

    /** Promise 18. */
    public int seen(int q) {
        return runsNow(q) ? grant(course.saw) : NONE;
    }

    /** Promise 19. */
    public int third(int q) {
        return runsNow(q) ? grant(lowestBit(course.newcomers)) : NONE;
    }

    /** Promise 20. */
    public int won() {
        if (!hasTown()) {
            return refuse(NO_SUCH);
        }
        showNow();
        return grant(guesses.wonOnes());
    }

    /** Promise 21. */
    public int nurse() {
        if (!hasTown()) {
            return refuse(NO_SUCH);
        }
        showNow();
        return grant(guesses.bestPlainOne());
    }

    // ---- where and when

    /** Promise 22. */
    public int endsIf(int q, int place, int from) {
        if (!isQuarrel(q) || !isPlace(place)) {
            return refuse(NO_SUCH);
        }
        if (!isMinute(from)) {
            return refuse(BAD_NUMBER);
        }
        showNow();
        course.run(q, place, from);
        return grant(course.how);
    }

    /** Promise 23. */
    public int cellars(int q) {
        if (!isQuarrel(q)) {
            return refuse(NO_SUCH);
        }
        showNow();
        return grant(guesses.winningPlaces(q));
    }

    /** Promise 24. */
    public int hour(int q) {
        if (!isQuarrel(q)) {
            return refuse(NO_SUCH);
        }
        showNow();
        return grant(guesses.winningMinute(q, town.fact(q, ITS_PLACE), MINUTES));
    }

    /** Promise 25. */
    public int longest(int q) {
        if (!isQuarrel(q)) {
            return refuse(NO_SUCH);
        }
        showNow();
        return grant(guesses.latestPlace(q));
    }

    /** Promise 26. */
    public int moor(int q) {
        if (!isQuarrel(q)) {
            return refuse(NO_SUCH);
        }
        showNow();
        return grant(guesses.winningMinuteAndPlace(q));
    }

    /** Promise 27. */
    public int bricks(int q) {
        if (!isQuarrel(q)) {
            return refuse(NO_SUCH);
        }
        showNow();
        return grant(guesses.fewestBricks(q));
    }

    // ---- hiring

    /** Promise 28. */
    public int stoppers(int q) {
        if (!isQuarrel(q)) {
            return refuse(NO_SUCH);
        }
        showNow();
        return grant(guesses.cheapestStoppers(q));
    }

    /** Promise 29. */
    public int price(int q) {
        if (!isQuarrel(q)) {
            return refuse(NO_SUCH);
        }
        showNow();
        int set = guesses.cheapestStoppers(q);
        return grant(set == NOT ? NOT : town.priceOf(set));
    }

    /** Promise 30. */
    public int stoppedIf(int p, int place) {
        if (!isPerson(p) || !isPlace(place)) {
            return refuse(NO_SUCH);
        }
        if (!town.canBeHired(p)) {
            return refuse(NOT_SO);
        }
        showNow();
        scene.sent = Acts.sending(acts.sent, p, place);
        return grant(guesses.stoppedOnes());
    }

    /** Promise 31. */
    public int bestHire() {
        if (!hasTown()) {
            return refuse(NO_SUCH);
        }
        showNow();
        return grant(guesses.bestSending());
    }

    // ---- unsure wits

    /** Promise 32. */
    public int fits() {
        return doubtsNow() ? grant(doubts.found) : NONE;
    }

    /** Promise 33. */
    public int fitAt(int i) {
        if (!doubtsNow()) {
            return NONE;
        }
        if (i < 0 || i >= doubts.found) {
            return refuse(NO_SUCH);
        }
        return grant(Rows.get(doubts.sets, i));
    }

    /** Promise 34. */
    public int could() {
        return doubtsNow() ? grant(doubts.inSome()) : NONE;
    }

    /** Promise 35. */
    public int surely() {
        return doubtsNow() ? grant(doubts.inAll()) : NONE;
    }

    /** Promise 36. */
    public int ask() {
        return doubtsNow() ? grant(doubts.whomToAsk()) : NONE;
    }

    /** Promise 37. */
    public int askLeaves() {
        if (!doubtsNow()) {
            return NONE;
        }
        int asked = doubts.whomToAsk();
        return grant(asked == NOT ? NOT : doubts.leftBy(asked));
    }

    /** Promise 38. */
    public int judge() {
        if (!hasTown()) {
            return refuse(NO_SUCH);
        }
        showTold();
        return grant(doubts.firstOtherwise());
    }

    // ---- turning it

    /** Promise 39. */
    public long swings(int p, int place, int minute, boolean lower) {
        if (!isPerson(p) || !isPlace(place)) {
            return refuse(NO_SUCH);
        }
        if (!isMinute(minute)) {
            return refuse(BAD_NUMBER);
        }
        showNow();
        int who = scene.seers(place, minute);
        int others = who & ~(1 << p);
        int his = (who >> p & 1) != 0 ? scene.eyesOf(1 << p) : 0;
        int turned = 0;
        for (int set = 0; set <= others; set++) {
            int sum = scene.eyesOf(set);
            if ((set & ~others) == 0 && sum < ENOUGH_EYES && sum + his >= ENOUGH_EYES) {
                turned++;
            }
        }
        trouble = GONE_WELL;
        return inLowestTerms(turned, 1L << Integer.bitCount(others), lower);
    }

    /** Promise 40. */
    public int three(int place, int minute) {
        if (mayNotLook(place, minute)) {
            return NONE;
        }
        int who = scene.seers(place, minute);
        int best = NOT;
        for (int set = 0; set <= who; set++) {
            boolean enough = (set & ~who) == 0 && scene.eyesOf(set) >= ENOUGH_EYES;
            if (enough && (best == NOT || Integer.bitCount(set) < Integer.bitCount(best))) {
                best = set;
            }
        }
        return grant(best);
    }

    // ---- two in a quarrel

    /** Promise 41. */
    public int says(int heat, boolean one, boolean other, boolean ofOther) {
        if (mayNotHeat(heat)) {
            return NO_DUE;
        }
        return grant(ofOther ? due(heat, other, one) : due(heat, one, other));
    }

    /** Promise 42. */
    public int rests(int heat) {
        if (mayNotHeat(heat)) {
            return NONE;
        }
        int many = 0;
        for (int pair = 0; pair < 4; pair++) {
            if (isRest(heat, pair >= 2, pair % 2 == 1)) {
                many++;
            }
        }
        return grant(many);
    }

    /** Promise 43. */
    public int rest(int heat) {
        if (mayNotHeat(heat)) {
            return NONE;
        }
        for (int pair = 0; pair < 4; pair++) {
            if (isRest(heat, pair >= 2, pair % 2 == 1)) {
                return grant((pair >= 2 ? 10 : 0) + pair % 2);
            }
        }
        return grant(NOT);
    }

    /** What one has who says it or waits, while the one opposite does. */
    private static int due(int heat, boolean says, boolean oppositeSays) {
        if (says) {
            return oppositeSays ? 1 - heat : 4;
        }
        return oppositeSays ? -heat : 2;
    }

    private static boolean isRest(int heat, boolean one, boolean other) {
        return due(heat, one, other) >= due(heat, !one, other)
            && due(heat, other, one) >= due(heat, !other, one);
    }

    private boolean mayNotHeat(int heat) {
        if (!hasTown()) {
            trouble = NO_SUCH;
            return true;
        }
        if (heat < 0 || heat > MOST_HEAT) {
            trouble = BAD_NUMBER;
            return true;
        }
        return false;
    }

    // ---- boys

    /** Promise 44. */
    public long lasts(int q, int n, boolean lower) {
        if (!isQuarrel(q)) {
            return refuse(NO_SUCH);
        }
        if (n < 0 || n > MOST_LASTING) {
            return refuse(BAD_NUMBER);
        }
        showNow();
        course.weigh(q, n);
        trouble = GONE_WELL;
        return inLowestTerms(course.unstopped, course.allWays, lower);
    }

    /** Promise 45. */
    public int endsBy(int q, int seed) {
        return runsBy(q, seed) ? grant(course.how) : NONE;
    }

    /** Promise 46. */
    public int endsByAt(int q, int seed) {
        return runsBy(q, seed) ? grant(course.minute) : NONE;
    }

    /** Promise 47. */
    public int wins(int q, int seed, int n) {
        if (!isQuarrel(q)) {
            return refuse(NO_SUCH);
        }
        if (seed < 0 || seed >= SEEDS || n < 0 || n > MOST_TIMES) {
            return refuse(BAD_NUMBER);
        }
        showNow();
        course.seed = seed;
        int many = 0;
        for (int time = 0; time < n; time++) {
            course.runWithBoys(q);
            if (course.isWon()) {
                many++;
            }
        }
        return grant(many);
    }

    // ---- acts

    /** Promise 48. */
    public boolean brick(int k) {
        if (!isSight(k)) {
            return deny(NO_SUCH);
        }
        if ((acts.bricked >> k & 1) != 0) {
            return deny(NOT_SO);
        }
        acts.keep();
        acts.bricked |= 1 << k;
        return allow();
    }

    /** Promise 49. */
    public boolean open(int k) {
        if (!isSight(k)) {
            return deny(NO_SUCH);
        }
        if ((acts.bricked >> k & 1) == 0) {
            return deny(NOT_SO);
        }
        acts.keep();
        acts.bricked &= ~(1 << k);
        return allow();
    }

    /** Promise 50. */
    public int hire(int p, int place) {
        if (!isPerson(p) || !isPlace(place)) {
            return refuse(NO_SUCH);
        }
        if (!town.canBeHired(p) || Acts.sentTo(acts.sent, p) == place) {
            return refuse(NOT_SO);
        }
        acts.keep();
        acts.sent = Acts.sending(acts.sent, p, place);
        acts.spent += Rows.get(town.prices, p);
        return grant(Rows.get(town.prices, p));
    }

    /** Promise 51. */
    public boolean dismiss(int p) {
        if (!isPerson(p)) {
            return deny(NO_SUCH);
        }
        if (!acts.isHired(p)) {
            return deny(NOT_SO);
        }
        acts.keep();
        acts.sent = Acts.sending(acts.sent, p, NONE);
        return allow();
    }

    /** Promise 52. */
    public int spent() {
        return hasTown() ? grant(acts.spent) : refuse(NO_SUCH);
    }

    /** Promise 53. */
    public boolean undo() {
        return acts.takeBack() ? allow() : deny(NOTHING);
    }

    /** Promise 54. */
    public int image() {
        if (!hasTown()) {
            return refuse(NO_SUCH);
        }
        int number = acts.depict();
        return number == NONE ? refuse(NO_ROOM) : grant(number);
    }

    /** Promise 55. */
    public boolean back(int image) {
        return acts.becomeAs(image) ? allow() : deny(NO_SUCH);
    }

    // ---- what is told

    /** Promise 56. */
    public int led(int i) throws NoSuchElementException {
        showNow();
        int before = 0;
        for (int q = 0; q < town.count(QUARRELS); q++) {
            course.runAsTold(q);
            if (course.how == NOT) {
                if (before == i) {
                    return q;
                }
                before++;
            }
        }
        throw new NoSuchElementException("so many quarrels aren't open");
    }

    /** Promise 57. */
    public int size(int what) {
        if (what >= 0 && what < TOLD_COUNTS) {
            return town.count(what);
        }
        switch (what) {
            case 9:
                return acts.pasts;
            case 10:
                return acts.images;
            case 11:
                return taped;
            default:
                return NONE;
        }
    }

    /** Promise 58. */
    public int trouble() {
        return trouble;
    }

    // ---- what the calls share

    private int refuse(int why) {
        trouble = why;
        return NONE;
    }

    private int grant(int answer) {
        trouble = GONE_WELL;
        return answer;
    }

    private boolean deny(int why) {
        trouble = why;
        return false;
    }

    private boolean allow() {
        trouble = GONE_WELL;
        return true;
    }

    /** A town has a place at least. */
    private boolean hasTown() {
        return town.count(PLACES) > 0;
    }

    private boolean isPlace(int place) {
        return place >= 0 && place < town.count(PLACES);
    }

    private boolean isSight(int k) {
        return k >= 0 && k < town.count(SIGHTS);
    }

    private boolean isPerson(int p) {
        return p >= 0 && p < town.count(PEOPLE);
    }

    private boolean isQuarrel(int q) {
        return q >= 0 && q < town.count(QUARRELS);
    }

    private static boolean isMinute(int minute) {
        return minute >= 0 && minute < MINUTES;
    }

    private void showNow() {
        scene.show(town, acts.bricked, acts.sent);
    }

    private void showTold() {
        scene.show(town, 0, 0);
    }

    /** Sets the scene, unless it refuses a look at a place at a minute. */
    private boolean mayNotLook(int place, int minute) {
        if (!isPlace(place)) {
            trouble = NO_SUCH;
            return true;
        }
        if (!isMinute(minute)) {
            trouble = BAD_NUMBER;
            return true;
        }
        showNow();
        return false;
    }

    private boolean runsNow(int q) {
        if (!isQuarrel(q)) {
            return deny(NO_SUCH);
        }
        showNow();
        course.runAsTold(q);
        return true;
    }

    private boolean runsBy(int q, int seed) {
        if (!isQuarrel(q)) {
            return deny(NO_SUCH);
        }
        if (seed < 0 || seed >= SEEDS) {
            return deny(BAD_NUMBER);
        }
        showNow();
        course.seed = seed;
        course.runWithBoys(q);
        return true;
    }

    private boolean doubtsNow() {
        if (!hasTown()) {
            return deny(NO_SUCH);
        }
        showTold();
        doubts.findFits();
        return true;
    }

    private static int lowestBit(int bits) {
        for (int i = 0; i < 32; i++) {
            if ((bits >> i & 1) != 0) {
                return i;
            }
        }
        return NOT;
    }

    private static long inLowestTerms(long upper, long lower, boolean ofLower) {
        long divisor = upper;
        long common = lower;
        for (int step = 0; step < MOST_STEPS && divisor > 0; step++) {
            long left = common % divisor;
            common = divisor;
            divisor = left;
        }
        long asked = ofLower ? lower : upper;
        return common > 0 ? asked / common : asked;
    }

    /** Rows whose index is looked at first: 0 stands outside of them. */
    private static final class Rows {
        private Rows() {
        }

        static int get(int[] row, int i) {
            return row != null && i >= 0 && i < row.length ? row[i] : 0;
        }

        static void put(int[] row, int i, int value) {
            if (row != null && i >= 0 && i < row.length) {
                row[i] = value;
            }
        }
    }

    /** A town as its text tells it; one without a place is none. */
    private static final class Town {
        final int[] counts = new int[TOLD_COUNTS];
        final int[] sightsFrom = new int[MOST_SIGHTS];
        final int[] sightsInto = new int[MOST_SIGHTS];
        final int[] kinds = new int[MOST_PEOPLE];
        final int[] wits = new int[MOST_PEOPLE];
        final int[] prices = new int[MOST_PEOPLE];
        /** The place of each person at each minute. */
        final int[] spots = new int[MOST_PEOPLE * MINUTES];
        final int[] facts = new int[MOST_QUARRELS * QUARREL_FACTS];
        final int[] endedAt = new int[MOST_QUARRELS];
        final int[] unsureOnes = new int[MOST_UNSURE];
        final int[] unsureWits = new int[MOST_UNSURE];

        void clear() {
            Arrays.fill(counts, 0);
            Arrays.fill(prices, NOT);
            Arrays.fill(endedAt, NOT);
        }

        int count(int what) {
            return Rows.get(counts, what);
        }

        /** Counts one more of a sort: its number. */
        int addOne(int what) {
            int number = count(what);
            Rows.put(counts, what, number + 1);
            return number;
        }

        void placeFrom(int p, int place, int from) {
            for (int minute = from; minute < MINUTES; minute++) {
                Rows.put(spots, p * MINUTES + minute, place);
            }
        }

        boolean hasSight(int from, int into) {
            for (int k = 0; k < count(SIGHTS); k++) {
                if (Rows.get(sightsFrom, k) == from && Rows.get(sightsInto, k) == into) {
                    return true;
                }
            }
            return false;
        }

        boolean isUnsure(int p) {
            for (int i = 0; i < count(UNSURE); i++) {
                if (Rows.get(unsureOnes, i) == p) {
                    return true;
                }
            }
            return false;
        }

        boolean canBeHired(int p) {
            return Rows.get(prices, p) != NOT;
        }

        int fact(int q, int what) {
            return Rows.get(facts, q * QUARREL_FACTS + what);
        }

        /** The two of a quarrel, as bits. */
        int twoOf(int q) {
            return 1 << fact(q, FIRST_ONE) | 1 << fact(q, OTHER_ONE);
        }

        int quarrelsOf(int p) {
            int his = 0;
            for (int q = 0; q < count(QUARRELS); q++) {
                his |= (twoOf(q) >> p & 1) << q;
            }
            return his;
        }

        int eyesByKind(int p) {
            switch (Rows.get(kinds, p)) {
                case BLIND:
                    return 0;
                case BABE:
                    return 1;
                default:
                    return PLAIN_EYES;
            }
        }

        int priceOf(int people) {
            int sum = 0;
            for (int p = 0; p < count(PEOPLE); p++) {
                sum += (people >> p & 1) != 0 ? Rows.get(prices, p) : 0;
            }
            return sum;
        }
    }

    /** Parts the text on a tape into its tokens, one after the other. */
    private static final class Tokens {
        static final int END = 0;
        static final int WORD = 1;
        static final int WHOLE = 2;
        static final int MARK = 3;
        static final int BAD = 4;

        private static final int MOST_LETTERS = 8;
        private static final int MOST_DIGITS = 3;
        private static final int LETTER_BASE = 27;

        private final byte[] text;
        private int length;
        /** Where the token ahead of this one begins, where this one does, and where the next one may. */
        int former;
        int place;
        private int stop;
        int kind;
        /** A whole, or the letters of a word as a number. */
        long value;

        Tokens(byte[] text) {
            this.text = text;
        }

        void start(int newLength) {
            length = newLength;
            stop = 0;
            next();
        }

        void next() {
            former = place;
            place = stop;
            while (place < length && byteAt(place) == ' ') {
                place++;
            }
            stop = place;
            int first = byteAt(place);
            if (place >= length) {
                kind = END;
            } else if (first == ';') {
                kind = MARK;
                stop++;
            } else if (isLetter(first)) {
                takeWord();
            } else if (isDigit(first)) {
                takeWhole();
            } else {
                kind = BAD;
            }
        }

        private void takeWord() {
            value = 0;
            while (stop < length && isLetter(byteAt(stop))) {
                if (stop - place < MOST_LETTERS) {
                    value = value * LETTER_BASE + byteAt(stop) - 'a' + 1;
                }
                stop++;
            }
            kind = stop - place <= MOST_LETTERS ? WORD : BAD;
        }

        private void takeWhole() {
            value = 0;
            while (stop < length && isDigit(byteAt(stop))) {
                if (stop - place < MOST_DIGITS) {
                    value = value * 10 + byteAt(stop) - '0';
                }
                stop++;
            }
            kind = stop - place <= MOST_DIGITS ? WHOLE : BAD;
        }

        private int byteAt(int i) {
            return text != null && i >= 0 && i < text.length ? text[i] : 0;
        }

        private static boolean isLetter(int sign) {
            return sign >= 'a' && sign <= 'z';
        }

        private static boolean isDigit(int sign) {
            return sign >= '0' && sign <= '9';
        }

        boolean isWord(String word) {
            return kind == WORD && value == numberOf(word);
        }

        /** The letters of a word as a number: no two words of eight letters or fewer have the same. */
        private static long numberOf(String word) {
            long number = 0;
            for (int i = 0; i < word.length(); i++) {
                number = number * LETTER_BASE + word.charAt(i) - 'a' + 1;
            }
            return number;
        }
    }

    /** Reads a text into a town, token by token, up to the first fault. */
    private static final class Reader {
        private static final int FORM = 1;
        private static final int UNTOLD = 2;
        private static final int AGAIN = 3;
        private static final int BOUNDS = 4;
        private static final int MANY = 5;
        private static final int LACKS = 6;
        private static final int EARLY = 7;

        /** What is no line's sort; the others are those that size() counts. */
        private static final int NO_LINE = -1;
        private static final int MOST_NAMES = MOST_PLACES + MOST_PEOPLE + MOST_QUARRELS;
        /** No line has more numbers, names told among them. */
        private static final int MOST_READ = 8;

        private final Tokens tokens;
        private Town town;
        private boolean hasBoys;
        private final long[] names = new long[MOST_NAMES];
        private final int[] nameSorts = new int[MOST_NAMES];
        private final int[] nameNumbers = new int[MOST_NAMES];
        private int named;
        /** The minute of each one's latest line of goes. */
        private final int[] latest = new int[MOST_PEOPLE];
        /** What the line has told so far, numbers and those of names. */
        private final int[] read = new int[MOST_READ];
        private int reads;
        int fault;
        int faultPlace;

        Reader(byte[] text, Town draft) {
            tokens = new Tokens(text);
            town = draft;
        }

        boolean readTown(Town draft, int length) {
            town = draft;
            town.clear();
            hasBoys = false;
            named = 0;
            Arrays.fill(latest, 0);
            fault = 0;
            faultPlace = 0;
            tokens.start(length);
            boolean good = readLine();
            for (int line = 0; line < TAPE_ROOM && good && tokens.kind == Tokens.MARK; line++) {
                tokens.next();
                good = readLine();
            }
            return good && readEnd();
        }

        private boolean readEnd() {
            if (tokens.kind != Tokens.END) {
                return fail(FORM);
            }
            return town.count(PLACES) > 0 || fail(LACKS);
        }

        private boolean readLine() {
            int sort = lineSort();
            int wrong = wrongOfLine(sort);
            if (wrong != 0) {
                return fail(wrong);
            }
            reads = 0;
            tokens.next();
            switch (sort) {
                case BOYS:
                    return word("boys") && whole(0, 100) && addBoys();
                case PLACES:
                    return name(PLACES) && addPlace();
                case SIGHTS:
                    return told(PLACES) && told(PLACES) && isNewSight() && addSight();
                case PEOPLE:
                    return name(PEOPLE) && kind() && word("at") && told(PLACES)
                        && word("wit") && whole(0, 9) && addPerson();
                case GOINGS:
                    return told(PEOPLE) && told(PLACES) && word("at") && whole(1, 59)
                        && isLater() && addGoing();
                case QUARRELS:
                    return name(QUARRELS) && told(PEOPLE) && told(PEOPLE) && isAnotherOne()
                        && word("at") && told(PLACES) && word("from") && whole(0, 59)
                        && word("needs") && whole(1, 99) && addQuarrel();
                case HIRABLE:
                    return told(PEOPLE) && isNew(!town.canBeHired(readAt(0)))
                        && word("for") && whole(0, 20) && addHirable();
                case UNSURE:
                    return told(PEOPLE) && isNew(!town.isUnsure(readAt(0)))
                        && whole(0, 9) && addUnsure();
                default:
                    return told(QUARRELS) && isNew(Rows.get(town.endedAt, readAt(0)) == NOT)
                        && word("at") && whole(0, 59) && addEnded();
            }
        }

        /** Which sort of line the word here begins, by what it counts. */
        private int lineSort() {
            if (tokens.isWord("town")) {
                return BOYS;
            }
            if (tokens.isWord("place")) {
                return PLACES;
            }
            if (tokens.isWord("sees")) {
                return SIGHTS;
            }
            if (tokens.isWord("person")) {
                return PEOPLE;
            }
            if (tokens.isWord("goes")) {
                return GOINGS;
            }
            if (tokens.isWord("quarrel")) {
                return QUARRELS;
            }
            if (tokens.isWord("hire")) {
                return HIRABLE;
            }
            if (tokens.isWord("unsure")) {
                return UNSURE;
            }
            return tokens.isWord("ended") ? ENDED : NO_LINE;
        }

        /** The fault of a line's first word; 0 if it has none. */
        private int wrongOfLine(int sort) {
            if (sort == NO_LINE) {
                return FORM;
            }
            if (sort == BOYS) {
                return hasBoys ? AGAIN : 0;
            }
            if (!hasBoys) {
                return LACKS;
            }
            return town.count(sort) >= roomFor(sort) ? MANY : 0;
        }

        private static int roomFor(int sort) {
            switch (sort) {
                case PLACES:
                    return MOST_PLACES;
                case SIGHTS:
                    return MOST_SIGHTS;
                case PEOPLE:
                    return MOST_PEOPLE;
                case GOINGS:
                    return MOST_GOINGS;
                case QUARRELS:
                    return MOST_QUARRELS;
                case UNSURE:
                    return MOST_UNSURE;
                default:
                    // each person or quarrel once: that leaves no room for more anyway
                    return TAPE_ROOM;
            }
        }

        private boolean fail(int number) {
            return failAt(number, tokens.place);
        }

        private boolean failAt(int number, int place) {
            fault = number;
            faultPlace = place;
            return false;
        }

        private boolean note(int number) {
            Rows.put(read, reads, number);
            reads++;
            tokens.next();
            return true;
        }

        private int readAt(int i) {
            return Rows.get(read, i);
        }

        private boolean word(String due) {
            if (!tokens.isWord(due)) {
                return fail(FORM);
            }
            tokens.next();
            return true;
        }

        private boolean whole(int least, int most) {
            if (tokens.kind != Tokens.WHOLE) {
                return fail(FORM);
            }
            if (tokens.value < least || tokens.value > most) {
                return fail(BOUNDS);
            }
            return note((int) tokens.value);
        }

        private boolean kind() {
            if (tokens.isWord("plain")) {
                return note(PLAIN);
            }
            if (tokens.isWord("deaf")) {
                return note(DEAF);
            }
            if (tokens.isWord("blind")) {
                return note(BLIND);
            }
            return tokens.isWord("babe") ? note(BABE) : fail(FORM);
        }

        /** Where the name here stands among those told; NONE if it doesn't. */
        private int nameIndex() {
            for (int i = 0; i < named && i < names.length; i++) {
                if (names[i] == tokens.value) {
                    return i;
                }
            }
            return NONE;
        }

        /** A new name of a sort. */
        private boolean name(int sort) {
            if (tokens.kind != Tokens.WORD || lineSort() != NO_LINE) {
                return fail(FORM);
            }
            if (nameIndex() != NONE) {
                return fail(AGAIN);
            }
            if (named >= 0 && named < names.length) {
                names[named] = tokens.value;
                Rows.put(nameSorts, named, sort);
                Rows.put(nameNumbers, named, town.count(sort));
                named++;
            }
            tokens.next();
            return true;
        }

        /** A name of a sort that is told already. */
        private boolean told(int sort) {
            if (tokens.kind != Tokens.WORD || lineSort() != NO_LINE) {
                return fail(FORM);
            }
            int index = nameIndex();
            // a line's own name isn't told for the line itself, but there it is of another sort, too
            if (index == NONE || Rows.get(nameSorts, index) != sort) {
                return fail(UNTOLD);
            }
            return note(Rows.get(nameNumbers, index));
        }

        private boolean isNew(boolean so) {
            return so || failAt(AGAIN, tokens.former);
        }

        private boolean isNewSight() {
            return isNew(readAt(0) != readAt(1) && !town.hasSight(readAt(0), readAt(1)));
        }

        private boolean isAnotherOne() {
            return isNew(readAt(0) != readAt(1));
        }

        private boolean isLater() {
            return readAt(2) > Rows.get(latest, readAt(0)) || failAt(EARLY, tokens.former);
        }

        private boolean addBoys() {
            hasBoys = true;
            Rows.put(town.counts, BOYS, readAt(0));
            return true;
        }

        private boolean addPlace() {
            town.addOne(PLACES);
            return true;
        }

        private boolean addSight() {
            int k = town.addOne(SIGHTS);
            Rows.put(town.sightsFrom, k, readAt(0));
            Rows.put(town.sightsInto, k, readAt(1));
            return true;
        }

        private boolean addPerson() {
            int p = town.addOne(PEOPLE);
            Rows.put(town.kinds, p, readAt(0));
            Rows.put(town.wits, p, readAt(2));
            town.placeFrom(p, readAt(1), 0);
            return true;
        }

        private boolean addGoing() {
            town.addOne(GOINGS);
            town.placeFrom(readAt(0), readAt(1), readAt(2));
            Rows.put(latest, readAt(0), readAt(2));
            return true;
        }

        private boolean addQuarrel() {
            int q = town.addOne(QUARRELS);
            for (int what = 0; what < QUARREL_FACTS; what++) {
                Rows.put(town.facts, q * QUARREL_FACTS + what, readAt(what));
            }
            return true;
        }

        private boolean addHirable() {
            town.addOne(HIRABLE);
            Rows.put(town.prices, readAt(0), readAt(1));
            return true;
        }

        private boolean addUnsure() {
            int i = town.addOne(UNSURE);
            Rows.put(town.unsureOnes, i, readAt(0));
            Rows.put(town.unsureWits, i, readAt(1));
            return true;
        }

        private boolean addEnded() {
            town.addOne(ENDED);
            Rows.put(town.endedAt, readAt(0), readAt(1));
            return true;
        }
    }

    /** What was done to the town, what of it can be undone, and images of it. */
    private static final class Acts {
        private static final int MOST_KEPT = 16;
        private static final int MOST_IMAGES = 3;
        private static final int FACTS = 3;

        /** Sights bricked up, as bits. */
        int bricked;
        /** Where people were sent, each one's place and 1 in three bits. */
        int sent;
        int spent;
        private final int[] past = new int[MOST_KEPT * FACTS];
        int pasts;
        private final int[] imaged = new int[MOST_IMAGES * FACTS];
        int images;

        void forget() {
            bricked = 0;
            sent = 0;
            spent = 0;
            pasts = 0;
            images = 0;
        }

        static int sentTo(int sent, int p) {
            return (sent >> 3 * p & 7) - 1;
        }

        /** As sent, but one of them to another place; to NONE, back to his own ways. */
        static int sending(int sent, int p, int place) {
            return sent & ~(7 << 3 * p) | place + 1 << 3 * p;
        }

        boolean isHired(int p) {
            return sentTo(sent, p) != NONE;
        }

        /** Keeps what is now, ahead of an act. */
        void keep() {
            if (pasts >= MOST_KEPT) {
                System.arraycopy(past, FACTS, past, 0, past.length - FACTS);
                pasts = MOST_KEPT - 1;
            }
            write(past, pasts);
            pasts++;
        }

        boolean takeBack() {
            if (pasts <= 0) {
                return false;
            }
            pasts--;
            become(past, pasts);
            return true;
        }

        /** Takes an image: its number; NONE without room. */
        int depict() {
            if (images >= MOST_IMAGES) {
                return NONE;
            }
            write(imaged, images);
            images++;
            return images - 1;
        }

        boolean becomeAs(int image) {
            if (image < 0 || image >= images) {
                return false;
            }
            become(imaged, image);
            pasts = 0;
            return true;
        }

        private void write(int[] row, int number) {
            Rows.put(row, number * FACTS, bricked);
            Rows.put(row, number * FACTS + 1, sent);
            Rows.put(row, number * FACTS + 2, spent);
        }

        private void become(int[] row, int number) {
            bricked = Rows.get(row, number * FACTS);
            sent = Rows.get(row, number * FACTS + 1);
            spent = Rows.get(row, number * FACTS + 2);
        }
    }

    /** A town as it is, or as it would be. */
    private static final class Scene {
        Town town;
        int bricked;
        int sent;
        private final int[] wits = new int[MOST_PEOPLE];
        private final int[] eyesOfEach = new int[MOST_PEOPLE];

        Scene(Town town) {
            this.town = town;
        }

        void show(Town shown, int brickedUp, int sentOnes) {
            town = shown;
            bricked = brickedUp;
            sent = sentOnes;
            for (int p = 0; p < MOST_PEOPLE; p++) {
                Rows.put(wits, p, Rows.get(town.wits, p));
                Rows.put(eyesOfEach, p, town.eyesByKind(p));
            }
        }

        int witOf(int p) {
            return Rows.get(wits, p);
        }

        void takeForWit(int p, int wit) {
            Rows.put(wits, p, wit);
        }

        void takeForPlain(int p) {
            Rows.put(eyesOfEach, p, PLAIN_EYES);
        }

        void takeForHisKind(int p) {
            Rows.put(eyesOfEach, p, town.eyesByKind(p));
        }

        int eyesOf(int people) {
            int sum = 0;
            for (int p = 0; p < MOST_PEOPLE; p++) {
                sum += (people >> p & 1) != 0 ? Rows.get(eyesOfEach, p) : 0;
            }
            return sum;
        }

        int spotOf(int p, int minute) {
            int place = Acts.sentTo(sent, p);
            return place != NONE ? place : Rows.get(town.spots, p * MINUTES + minute);
        }

        /** Places into which one sees from a place, as bits. */
        int viewFrom(int place) {
            int bits = 1 << place;
            for (int k = 0; k < town.count(SIGHTS); k++) {
                if (Rows.get(town.sightsFrom, k) == place && (bricked >> k & 1) == 0) {
                    bits |= 1 << Rows.get(town.sightsInto, k);
                }
            }
            return bits;
        }

        /** Places from which one sees into a place, as bits. */
        int lookouts(int place) {
            int bits = 1 << place;
            for (int k = 0; k < town.count(SIGHTS); k++) {
                if (Rows.get(town.sightsInto, k) == place && (bricked >> k & 1) == 0) {
                    bits |= 1 << Rows.get(town.sightsFrom, k);
                }
            }
            return bits;
        }

        /** People at any of some places at a minute, as bits. */
        int peopleAt(int places, int minute) {
            int who = 0;
            for (int p = 0; p < town.count(PEOPLE); p++) {
                who |= (places >> spotOf(p, minute) & 1) << p;
            }
            return who;
        }

        int seers(int place, int minute) {
            return peopleAt(lookouts(place), minute);
        }
    }

    /** How one quarrel goes in a scene, minute by minute. */
    private static final class Course {
        private final Scene scene;
        /** Who sees the place looked at, at each minute. */
        private final int[] seeing = new int[MINUTES];
        /** How it ended, at which minute; NOT if it is open. */
        int how;
        int minute;
        /** By how much the first one has more. */
        int ahead;
        int saw;
        /** Who saw it first at the minute at which it was stopped. */
        int newcomers;
        int seed;
        /** Of all ways in which boys may come, those by which it wasn't stopped. */
        long unstopped;
        long allWays;

        Course(Scene scene) {
            this.scene = scene;
        }

        void runAsTold(int q) {
            run(q, scene.town.fact(q, ITS_PLACE), scene.town.fact(q, ITS_MINUTE));
        }

        void run(int q, int place, int from) {
            watch(place);
            go(q, from, 0);
        }

        void runWithBoys(int q) {
            watch(scene.town.fact(q, ITS_PLACE));
            go(q, scene.town.fact(q, ITS_MINUTE), scene.town.count(BOYS));
        }

        boolean isWon() {
            return how == WON_BY_FIRST || how == WON_BY_OTHER;
        }

        /** Looks at a place for all minutes, for go() from any of them. */
        void watch(int place) {
            int from = scene.lookouts(place);
            for (int m = 0; m < MINUTES; m++) {
                Rows.put(seeing, m, scene.peopleAt(from, m));
            }
        }

        /** Goes on from a minute at the place that is watched; draws are made even where no boy can come. */
        void go(int q, int from, int boysInHundred) {
            how = NOT;
            minute = NOT;
            ahead = 0;
            saw = 0;
            newcomers = 0;
            int two = scene.town.twoOf(q);
            int gain = gainOf(q);
            int needs = scene.town.fact(q, ITS_NEED);
            int eyes = 0;
            for (int m = from; m < MINUTES && how == NOT; m++) {
                int before = saw;
                saw |= Rows.get(seeing, m) & ~two;
                eyes += saw != before ? scene.eyesOf(saw & ~before) : 0;
                eyes += drawsBelow(boysInHundred) ? PLAIN_EYES : 0;
                if (eyes >= ENOUGH_EYES) {
                    how = STOPPED;
                    minute = m;
                    newcomers = saw & ~before;
                } else {
                    ahead += gain;
                    if (Math.abs(ahead) >= needs) {
                        how = ahead > 0 ? WON_BY_FIRST : WON_BY_OTHER;
                        minute = m;
                    }
                }
            }
        }

        /** What the first one gains on the other one by a minute's words. */
        private int gainOf(int q) {
            return scene.witOf(scene.town.fact(q, FIRST_ONE)) - scene.witOf(scene.town.fact(q, OTHER_ONE));
        }

        private boolean drawsBelow(int bound) {
            seed = (75 * seed + 74) % SEEDS;
            return seed % 100 < bound;
        }

        /** Weighs all ways in which boys may come in the first minutes, each by its parts of a hundred. */
        void weigh(int q, int minutes) {
            watch(scene.town.fact(q, ITS_PLACE));
            int two = scene.town.twoOf(q);
            int from = scene.town.fact(q, ITS_MINUTE);
            int chance = scene.town.count(BOYS);
            long without = 1;
            long withOne = 0;
            long withTwo = 0;
            int who = 0;
            int gained = 0;
            allWays = 1;
            for (int m = from; m < MINUTES && m < from + minutes; m++) {
                who |= Rows.get(seeing, m) & ~two;
                int eyes = scene.eyesOf(who);
                // three boys are witnesses enough by themselves
                withTwo = leftOf(withTwo * (100 - chance) + withOne * chance, eyes + 2 * PLAIN_EYES);
                withOne = leftOf(withOne * (100 - chance) + without * chance, eyes + PLAIN_EYES);
                without = leftOf(without * (100 - chance), eyes);
                allWays *= 100;
                gained += gainOf(q);
                if (Math.abs(gained) >= scene.town.fact(q, ITS_NEED)) {
                    break;
                }
            }
            unstopped = without + withOne + withTwo;
        }

        private static long leftOf(long ways, int eyes) {
            return eyes >= ENOUGH_EYES ? 0 : ways;
        }
    }

    /** What would be, were a quarrel elsewhere, later, walled in, or people sent. */
    private static final class Guesses {
        private final Scene scene;
        private final Course course;

        Guesses(Scene scene, Course course) {
            this.scene = scene;
            this.course = course;
        }

        int wonOnes() {
            int bits = 0;
            for (int q = 0; q < scene.town.count(QUARRELS); q++) {
                course.runAsTold(q);
                bits |= course.isWon() ? 1 << q : 0;
            }
            return bits;
        }

        int stoppedOnes() {
            int bits = 0;
            for (int q = 0; q < scene.town.count(QUARRELS); q++) {
                course.run(q, scene.town.fact(q, ITS_PLACE), scene.town.fact(q, ITS_MINUTE));
                bits |= course.how == STOPPED ? 1 << q : 0;
            }
            return bits;
        }

        int bestPlainOne() {
            int best = NOT;
            int most = Integer.bitCount(stoppedOnes());
            for (int p = 0; p < scene.town.count(PEOPLE); p++) {
                scene.takeForPlain(p);
                int many = Integer.bitCount(stoppedOnes());
                scene.takeForHisKind(p);
                if (many > most) {
                    most = many;
                    best = p;
                }
            }
            return best;
        }

        int winningPlaces(int q) {
            int bits = 0;
            for (int place = 0; place < scene.town.count(PLACES); place++) {
                course.run(q, place, scene.town.fact(q, ITS_MINUTE));
                bits |= course.isWon() ? 1 << place : 0;
            }
            return bits;
        }

        /** The first minute below a bound from which on it would be won at a place. */
        int winningMinute(int q, int place, int bound) {
            course.watch(place);
            for (int from = 0; from < MINUTES && from < bound; from++) {
                course.go(q, from, 0);
                if (course.isWon()) {
                    return from;
                }
            }
            return NOT;
        }

        int winningMinuteAndPlace(int q) {
            int best = NOT;
            int earliest = MINUTES;
            for (int place = 0; place < scene.town.count(PLACES); place++) {
                int from = winningMinute(q, place, earliest);
                if (from != NOT) {
                    earliest = from;
                    best = from * 10 + place;
                }
            }
            return best;
        }

        int latestPlace(int q) {
            int best = 0;
            int latest = -1;
            for (int place = 0; place < scene.town.count(PLACES); place++) {
                course.run(q, place, scene.town.fact(q, ITS_MINUTE));
                int end = course.how == NOT ? MINUTES : course.minute;
                if (end > latest) {
                    latest = end;
                    best = place;
                }
            }
            return best;
        }

        int fewestBricks(int q) {
            int before = scene.bricked;
            int useful = openInto(scene.town.fact(q, ITS_PLACE));
            int best = NOT;
            for (int set = 0; set <= useful; set++) {
                boolean fewer = best == NOT || Integer.bitCount(set) < Integer.bitCount(best);
                if ((set & ~useful) == 0 && fewer) {
                    scene.bricked = before | set;
                    course.runAsTold(q);
                    scene.bricked = before;
                    best = course.isWon() ? set : best;
                }
            }
            return best;
        }

        /** Open sights into a place: others make no quarrel there any other, so the fewest have none of them. */
        private int openInto(int place) {
            int bits = 0;
            for (int k = 0; k < scene.town.count(SIGHTS); k++) {
                bits |= Rows.get(scene.town.sightsInto, k) == place ? 1 << k : 0;
            }
            return bits & ~scene.bricked;
        }

        int cheapestStoppers(int q) {
            int before = scene.sent;
            int ready = readyFor(q);
            int best = NOT;
            for (int set = 0; set <= ready; set++) {
                boolean cheaper = best == NOT || scene.town.priceOf(set) < scene.town.priceOf(best);
                if ((set & ~ready) == 0 && cheaper) {
                    sendAll(set, scene.town.fact(q, ITS_PLACE));
                    course.runAsTold(q);
                    scene.sent = before;
                    best = course.how == STOPPED ? set : best;
                }
            }
            return best;
        }

        /** People who could be hired against a quarrel, as bits. */
        private int readyFor(int q) {
            int ready = 0;
            for (int p = 0; p < scene.town.count(PEOPLE); p++) {
                boolean isHired = Acts.sentTo(scene.sent, p) != NONE;
                ready |= scene.town.canBeHired(p) && !isHired ? 1 << p : 0;
            }
            return ready & ~scene.town.twoOf(q);
        }

        private void sendAll(int people, int place) {
            for (int p = 0; p < MOST_PEOPLE; p++) {
                if ((people >> p & 1) != 0) {
                    scene.sent = Acts.sending(scene.sent, p, place);
                }
            }
        }

        int bestSending() {
            int before = scene.sent;
            int best = NOT;
            int most = Integer.bitCount(stoppedOnes());
            for (int p = 0; p < scene.town.count(PEOPLE); p++) {
                for (int place = 0; place < scene.town.count(PLACES); place++) {
                    scene.sent = Acts.sending(before, p, place);
                    int many = scene.town.canBeHired(p) ? Integer.bitCount(stoppedOnes()) : 0;
                    if (many > most) {
                        most = many;
                        best = p * 10 + place;
                    }
                }
            }
            scene.sent = before;
            return best;
        }
    }

    /** Which wits of unsure ones fit the quarrels that ended. */
    private static final class Doubts {
        private final Scene scene;
        private final Course course;
        /** The sets that fit, by bits of unsure ones. */
        final int[] sets = new int[1 << MOST_UNSURE];
        int found;

        Doubts(Scene scene, Course course) {
            this.scene = scene;
            this.course = course;
        }

        /** Finds the sets that fit in a scene of which nothing is bricked up, nobody hired. */
        void findFits() {
            found = 0;
            for (int set = 0; set < 1 << scene.town.count(UNSURE); set++) {
                takeForOther(set);
                if (firstOtherwise() == NOT) {
                    Rows.put(sets, found, set);
                    found++;
                }
            }
        }

        /** Takes a set of unsure ones for having the other wit, the others for having the one told. */
        private void takeForOther(int set) {
            for (int i = 0; i < scene.town.count(UNSURE); i++) {
                int p = Rows.get(scene.town.unsureOnes, i);
                boolean other = (set >> i & 1) != 0;
                scene.takeForWit(p, other ? Rows.get(scene.town.unsureWits, i) : Rows.get(scene.town.wits, p));
            }
        }

        /** The first quarrel told to have ended that doesn't so in the scene. */
        int firstOtherwise() {
            for (int q = 0; q < scene.town.count(QUARRELS); q++) {
                int told = Rows.get(scene.town.endedAt, q);
                if (told != NOT) {
                    course.watch(scene.town.fact(q, ITS_PLACE));
                    course.go(q, scene.town.fact(q, ITS_MINUTE), 0);
                    if (course.minute != told) {
                        return q;
                    }
                }
            }
            return NOT;
        }

        int inSome() {
            int bits = 0;
            for (int i = 0; i < found; i++) {
                bits |= Rows.get(sets, i);
            }
            return bits;
        }

        int inAll() {
            int bits = found > 0 ? (1 << MOST_UNSURE) - 1 : 0;
            for (int i = 0; i < found; i++) {
                bits &= Rows.get(sets, i);
            }
            return bits;
        }

        int whomToAsk() {
            int best = NOT;
            int fewest = found + 1;
            for (int i = 0; i < scene.town.count(UNSURE) && found > 0; i++) {
                if (leftBy(i) < fewest) {
                    fewest = leftBy(i);
                    best = i;
                }
            }
            return best;
        }

        /** How many sets are left at most when it is told which wit an unsure one has. */
        int leftBy(int asked) {
            int with = 0;
            for (int i = 0; i < found; i++) {
                with += Rows.get(sets, i) >> asked & 1;
            }
            return Math.max(with, found - with);
        }
    }
}
