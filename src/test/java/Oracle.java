import java.math.BigInteger;
import java.nio.charset.StandardCharsets;
import java.util.ArrayDeque;
import java.util.ArrayList;
import java.util.HashMap;
import java.util.List;
import java.util.Map;
import java.util.NoSuchElementException;
import java.util.Set;
import java.util.TreeSet;
import java.util.regex.Matcher;
import java.util.regex.Pattern;

/**
 * The document once more, slow and with the whole Java library, to be compared with the class:
 * sets instead of bits, every way tried instead of counted, the state copied instead of packed.
 */
final class Oracle {
    private static final int OPEN = -2;

    private static final class Person {
        String kind;
        int wit;
        int home;
        final List<int[]> goings = new ArrayList<>();
        Integer shillings;
    }

    private static final class Quarrel {
        int one;
        int other;
        int place;
        int from;
        int needs;
        Integer endedAt;
    }

    private static final class Town {
        int boys = -1;
        int goings;
        final List<int[]> sights = new ArrayList<>();
        int places;
        final List<Person> people = new ArrayList<>();
        final List<Quarrel> quarrels = new ArrayList<>();
        final List<int[]> unsure = new ArrayList<>();
        final Map<String, String> sorts = new HashMap<>();
        final Map<String, Integer> numbers = new HashMap<>();
    }

    private static final class State {
        Set<Integer> bricked = new TreeSet<>();
        Map<Integer, Integer> sent = new HashMap<>();
        int spent;

        State copy() {
            State s = new State();
            s.bricked = new TreeSet<>(bricked);
            s.sent = new HashMap<>(sent);
            s.spent = spent;
            return s;
        }
    }

    private static final class Fault extends Exception {
        private static final long serialVersionUID = 1L;
        final int number;
        final int place;

        Fault(int number, int place) {
            this.number = number;
            this.place = place;
        }
    }

    private static final class Ending {
        int how = OPEN;
        int minute = OPEN;
        int lead;
        Set<Integer> seen = new TreeSet<>();
        Set<Integer> fresh = new TreeSet<>();
    }

    private final StringBuilder tape = new StringBuilder();
    private Town town;
    private State now = new State();
    private final ArrayDeque<State> past = new ArrayDeque<>();
    private final List<State> images = new ArrayList<>();
    private int fault;
    private int faultPlace;
    private int trouble;

    // ---- reading

    private static final Map<String, String> LINES = new HashMap<>();

    static {
        LINES.put("town", "boys 0-100");
        LINES.put("place", "+place");
        LINES.put("sees", "=place =place");
        LINES.put("person", "+person KIND at =place wit 0-9");
        LINES.put("goes", "=person =place at 1-59");
        LINES.put("quarrel", "+quarrel =person =person at =place from 0-59 needs 1-99");
        LINES.put("hire", "=person for 0-20");
        LINES.put("unsure", "=person 0-9");
        LINES.put("ended", "=quarrel at 0-59");
    }

    /** Tokens with their places: a text of "?" for bytes that begin none, "" at the end. */
    private static void tokens(String text, List<String> words, List<Integer> places) {
        Matcher m = Pattern.compile("[a-z]+|[0-9]+|;|[^ ]", Pattern.DOTALL).matcher(text);
        while (m.find()) {
            String s = m.group();
            places.add(m.start());
            if (s.matches("[a-z]{1,8}|[0-9]{1,3}|;")) {
                words.add(s);
            } else {
                words.add("?");
                return;
            }
        }
        words.add("");
        places.add(text.length());
    }

    private static int room(Town t, String sort) {
        switch (sort) {
            case "place":
                return 6 - t.places;
            case "sees":
                return 8 - t.sights.size();
            case "person":
                return 6 - t.people.size();
            case "goes":
                return 10 - t.goings;
            case "quarrel":
                return 3 - t.quarrels.size();
            case "unsure":
                return 4 - t.unsure.size();
            default:
                return 1;
        }
    }

    private static Town read(String text) throws Fault {
        List<String> words = new ArrayList<>();
        List<Integer> places = new ArrayList<>();
        tokens(text, words, places);
        Town t = new Town();
        int i = 0;
        while (true) {
            String sort = words.get(i);
            if (!LINES.containsKey(sort)) {
                throw new Fault(1, places.get(i));
            }
            if (sort.equals("town") && t.boys >= 0) {
                throw new Fault(3, places.get(i));
            }
            if (!sort.equals("town") && t.boys < 0) {
                throw new Fault(6, places.get(i));
            }
            if (room(t, sort) <= 0) {
                throw new Fault(5, places.get(i));
            }
            i++;
            List<Integer> told = new ArrayList<>();
            for (String due : LINES.get(sort).split(" ")) {
                int bad = take(t, due, words.get(i), told);
                if (bad == 0) {
                    bad = against(t, sort, told);
                }
                if (bad != 0) {
                    throw new Fault(bad, places.get(i));
                }
                i++;
            }
            add(t, sort, told);
            if (words.get(i).isEmpty()) {
                if (t.places == 0) {
                    throw new Fault(6, places.get(i));
                }
                return t;
            }
            if (!words.get(i).equals(";")) {
                throw new Fault(1, places.get(i));
            }
            i++;
        }
    }

    private static int take(Town t, String due, String word, List<Integer> told) {
        boolean name = word.matches("[a-z]+") && !LINES.containsKey(word);
        if (due.startsWith("+")) {
            if (!name) {
                return 1;
            }
            if (t.sorts.containsKey(word)) {
                return 3;
            }
            t.sorts.put(word, due.substring(1));
            int number = due.equals("+place") ? t.places : due.equals("+person") ? t.people.size() : t.quarrels.size();
            t.numbers.put(word, number);
            return 0;
        }
        if (due.startsWith("=")) {
            if (!name) {
                return 1;
            }
            if (!due.substring(1).equals(t.sorts.get(word))) {
                return 2;
            }
            told.add(t.numbers.get(word));
            return 0;
        }
        if (due.contains("-")) {
            if (!word.matches("[0-9]+")) {
                return 1;
            }
            int whole = Integer.parseInt(word);
            told.add(whole);
            String[] bounds = due.split("-");
            return whole < Integer.parseInt(bounds[0]) || whole > Integer.parseInt(bounds[1]) ? 4 : 0;
        }
        if (due.equals("KIND")) {
            int kind = List.of("plain", "deaf", "blind", "babe").indexOf(word);
            told.add(kind);
            return kind < 0 ? 1 : 0;
        }
        return word.equals(due) ? 0 : 1;
    }

    /** Faults 3 and 7 of what is told last of a line. */
    private static int against(Town t, String sort, List<Integer> told) {
        if (sort.equals("sees") && told.size() == 2) {
            for (int[] s : t.sights) {
                if (s[0] == told.get(0) && s[1] == told.get(1)) {
                    return 3;
                }
            }
            return told.get(0).equals(told.get(1)) ? 3 : 0;
        }
        if (sort.equals("quarrel") && told.size() == 2) {
            return told.get(0).equals(told.get(1)) ? 3 : 0;
        }
        if (sort.equals("hire") && told.size() == 1) {
            return t.people.get(told.get(0)).shillings != null ? 3 : 0;
        }
        if (sort.equals("unsure") && told.size() == 1) {
            for (int[] u : t.unsure) {
                if (u[0] == told.get(0)) {
                    return 3;
                }
            }
        }
        if (sort.equals("ended") && told.size() == 1) {
            return t.quarrels.get(told.get(0)).endedAt != null ? 3 : 0;
        }
        if (sort.equals("goes") && told.size() == 3) {
            List<int[]> his = t.people.get(told.get(0)).goings;
            return !his.isEmpty() && his.get(his.size() - 1)[1] >= told.get(2) ? 7 : 0;
        }
        return 0;
    }

    private static void add(Town t, String sort, List<Integer> told) {
        switch (sort) {
            case "town":
                t.boys = told.get(0);
                break;
            case "place":
                t.places++;
                break;
            case "sees":
                t.sights.add(new int[] {told.get(0), told.get(1)});
                break;
            case "person":
                Person p = new Person();
                p.kind = List.of("plain", "deaf", "blind", "babe").get(told.get(0));
                p.home = told.get(1);
                p.wit = told.get(2);
                t.people.add(p);
                break;
            case "goes":
                t.people.get(told.get(0)).goings.add(new int[] {told.get(1), told.get(2)});
                t.goings++;
                break;
            case "quarrel":
                Quarrel q = new Quarrel();
                q.one = told.get(0);
                q.other = told.get(1);
                q.place = told.get(2);
                q.from = told.get(3);
                q.needs = told.get(4);
                t.quarrels.add(q);
                break;
            case "hire":
                t.people.get(told.get(0)).shillings = told.get(1);
                break;
            case "unsure":
                t.unsure.add(new int[] {told.get(0), told.get(1)});
                break;
            default:
                t.quarrels.get(told.get(0)).endedAt = told.get(1);
        }
    }

    // ---- who is where, who sees what

    private int spot(State s, int p, int minute) {
        if (s.sent.containsKey(p)) {
            return s.sent.get(p);
        }
        int place = town.people.get(p).home;
        for (int[] going : town.people.get(p).goings) {
            if (going[1] <= minute) {
                place = going[0];
            }
        }
        return place;
    }

    private boolean seesInto(State s, int from, int into) {
        for (int k = 0; k < town.sights.size(); k++) {
            if (town.sights.get(k)[0] == from && town.sights.get(k)[1] == into && !s.bricked.contains(k)) {
                return true;
            }
        }
        return from == into;
    }

    private Set<Integer> see(State s, int place, int minute) {
        Set<Integer> who = new TreeSet<>();
        for (int p = 0; p < town.people.size(); p++) {
            if (seesInto(s, spot(s, p, minute), place)) {
                who.add(p);
            }
        }
        return who;
    }

    private int eyesOne(int p) {
        return Map.of("plain", 2, "deaf", 2, "babe", 1, "blind", 0).get(town.people.get(p).kind);
    }

    private int eyesAll(Iterable<Integer> who) {
        int sum = 0;
        for (int p : who) {
            sum += eyesOne(p);
        }
        return sum;
    }

    private static int bits(Iterable<Integer> set) {
        int bits = 0;
        for (int i : set) {
            bits |= 1 << i;
        }
        return bits;
    }

    private static Set<Integer> setOf(int bits) {
        Set<Integer> set = new TreeSet<>();
        for (int i = 0; i < 31; i++) {
            if ((bits & 1 << i) != 0) {
                set.add(i);
            }
        }
        return set;
    }

    // ---- quarrels

    private Ending go(State s, int q, int place, int from) {
        return go(s, q, place, from, new boolean[60]);
    }

    /** How it goes with a boy more at those minutes at which comes says so. */
    private Ending go(State s, int q, int place, int from, boolean[] comes) {
        Quarrel quarrel = town.quarrels.get(q);
        Ending e = new Ending();
        int one = 0;
        int other = 0;
        int boys = 0;
        for (int m = from; m <= 59; m++) {
            e.fresh = new TreeSet<>();
            for (int p : see(s, place, m)) {
                if (p != quarrel.one && p != quarrel.other && e.seen.add(p)) {
                    e.fresh.add(p);
                }
            }
            boys += comes[m] ? 1 : 0;
            if (eyesAll(e.seen) + 2 * boys >= 6) {
                e.how = 0;
                e.minute = m;
                e.lead = one - other;
                return e;
            }
            one += town.people.get(quarrel.one).wit;
            other += town.people.get(quarrel.other).wit;
            e.lead = one - other;
            if (Math.abs(one - other) >= quarrel.needs) {
                e.how = one > other ? 1 : 2;
                e.minute = m;
                e.fresh = new TreeSet<>();
                return e;
            }
        }
        e.fresh = new TreeSet<>();
        return e;
    }

    private Ending go(State s, int q) {
        return go(s, q, town.quarrels.get(q).place, town.quarrels.get(q).from);
    }

    private int stopped(State s) {
        int bits = 0;
        for (int q = 0; q < town.quarrels.size(); q++) {
            bits |= go(s, q).how == 0 ? 1 << q : 0;
        }
        return bits;
    }

    private static boolean isWon(Ending e) {
        return e.how == 1 || e.how == 2;
    }

    // ---- answers

    private int no(int why) {
        trouble = why;
        return -1;
    }

    private int yes(int answer) {
        trouble = 0;
        return answer;
    }

    private boolean person0(int p) {
        return town != null && p >= 0 && p < town.people.size();
    }

    private boolean place0(int place) {
        return town != null && place >= 0 && place < town.places;
    }

    private boolean sight0(int k) {
        return town != null && k >= 0 && k < town.sights.size();
    }

    private boolean quarrel0(int q) {
        return town != null && q >= 0 && q < town.quarrels.size();
    }

    private static boolean minute0(int m) {
        return m >= 0 && m <= 59;
    }

    int feed(int a, int b, int c, int d, int e) {
        if (tape.length() > 880) {
            return -1;
        }
        for (int n : new int[] {a, b, c, d, e}) {
            byte[] four = {(byte) (n >>> 24), (byte) (n >>> 16), (byte) (n >>> 8), (byte) n};
            tape.append(new String(four, StandardCharsets.ISO_8859_1));
        }
        return tape.length();
    }

    int town(int n) {
        if (n < 0 || n > tape.length()) {
            return no(2);
        }
        String text = tape.substring(0, n);
        tape.setLength(0);
        try {
            town = read(text);
            now = new State();
            past.clear();
            images.clear();
            fault = 0;
            return yes(town.places);
        } catch (Fault f) {
            fault = f.number;
            faultPlace = f.place;
            return no(4);
        }
    }

    int fault() {
        return fault;
    }

    int where() {
        return trouble == 4 ? faultPlace : -1;
    }

    int person(int p, int what) {
        if (!person0(p) || what < 0 || what > 5) {
            return no(1);
        }
        Person one = town.people.get(p);
        switch (what) {
            case 0:
                return yes(List.of("plain", "deaf", "blind", "babe").indexOf(one.kind));
            case 1:
                return yes(one.wit);
            case 2:
                return yes(eyesOne(p));
            case 3:
                return yes(one.shillings == null ? -2 : one.shillings);
            case 4:
                return yes(now.sent.getOrDefault(p, -2));
            default:
                Set<Integer> his = new TreeSet<>();
                for (int q = 0; q < town.quarrels.size(); q++) {
                    if (town.quarrels.get(q).one == p || town.quarrels.get(q).other == p) {
                        his.add(q);
                    }
                }
                return yes(bits(his));
        }
    }

    int sight(int k, int what) {
        if (!sight0(k) || what < 0 || what > 2) {
            return no(1);
        }
        return yes(what == 2 ? now.bricked.contains(k) ? 1 : 0 : town.sights.get(k)[what]);
    }

    int quarrel(int q, int what) {
        if (!quarrel0(q) || what < 0 || what > 4) {
            return no(1);
        }
        Quarrel x = town.quarrels.get(q);
        return yes(new int[] {x.one, x.other, x.place, x.from, x.needs}[what]);
    }

    int at(int p, int minute) {
        return !person0(p) ? no(1) : !minute0(minute) ? no(2) : yes(spot(now, p, minute));
    }

    int into(int place) {
        if (!place0(place)) {
            return no(1);
        }
        Set<Integer> set = new TreeSet<>();
        for (int other = 0; other < town.places; other++) {
            if (seesInto(now, place, other)) {
                set.add(other);
            }
        }
        return yes(bits(set));
    }

    int watchers(int place, int minute) {
        return !place0(place) ? no(1) : !minute0(minute) ? no(2) : yes(bits(see(now, place, minute)));
    }

    int eyes(int place, int minute) {
        return !place0(place) ? no(1) : !minute0(minute) ? no(2) : yes(eyesAll(see(now, place, minute)));
    }

    int hidden(int minute) {
        if (town == null) {
            return no(1);
        }
        if (!minute0(minute)) {
            return no(2);
        }
        Set<Integer> set = new TreeSet<>();
        for (int place = 0; place < town.places; place++) {
            if (see(now, place, minute).stream().allMatch(p -> town.people.get(p).kind.equals("blind"))) {
                set.add(place);
            }
        }
        return yes(bits(set));
    }

    int square() {
        if (town == null) {
            return no(1);
        }
        int[] sums = new int[town.places];
        int best = 0;
        for (int place = 0; place < town.places; place++) {
            for (int minute = 0; minute < 60; minute++) {
                sums[place] += eyesAll(see(now, place, minute));
            }
            best = sums[place] > sums[best] ? place : best;
        }
        return yes(best);
    }

    int ends(int q) {
        return quarrel0(q) ? yes(go(now, q).how) : no(1);
    }

    int endsAt(int q) {
        return quarrel0(q) ? yes(go(now, q).minute) : no(1);
    }

    int lead(int q) {
        return quarrel0(q) ? yes(1000 + go(now, q).lead) : no(1);
    }

    int seen(int q) {
        return quarrel0(q) ? yes(bits(go(now, q).seen)) : no(1);
    }

    int third(int q) {
        if (!quarrel0(q)) {
            return no(1);
        }
        Ending e = go(now, q);
        return yes(e.how == 0 ? e.fresh.iterator().next() : -2);
    }

    int won() {
        if (town == null) {
            return no(1);
        }
        Set<Integer> set = new TreeSet<>();
        for (int q = 0; q < town.quarrels.size(); q++) {
            if (isWon(go(now, q))) {
                set.add(q);
            }
        }
        return yes(bits(set));
    }

    int nurse() {
        if (town == null) {
            return no(1);
        }
        int before = Integer.bitCount(stopped(now));
        int best = -2;
        int most = 0;
        for (int p = 0; p < town.people.size(); p++) {
            String kind = town.people.get(p).kind;
            town.people.get(p).kind = "plain";
            int more = Integer.bitCount(stopped(now)) - before;
            town.people.get(p).kind = kind;
            if (more > most) {
                most = more;
                best = p;
            }
        }
        return yes(best);
    }

    int endsIf(int q, int place, int from) {
        return !quarrel0(q) || !place0(place) ? no(1) : !minute0(from) ? no(2) : yes(go(now, q, place, from).how);
    }

    int cellars(int q) {
        if (!quarrel0(q)) {
            return no(1);
        }
        Set<Integer> set = new TreeSet<>();
        for (int place = 0; place < town.places; place++) {
            if (isWon(go(now, q, place, town.quarrels.get(q).from))) {
                set.add(place);
            }
        }
        return yes(bits(set));
    }

    int hour(int q) {
        if (!quarrel0(q)) {
            return no(1);
        }
        for (int from = 0; from < 60; from++) {
            if (isWon(go(now, q, town.quarrels.get(q).place, from))) {
                return yes(from);
            }
        }
        return yes(-2);
    }

    int longest(int q) {
        if (!quarrel0(q)) {
            return no(1);
        }
        int best = -1;
        int latest = -1;
        for (int place = 0; place < town.places; place++) {
            Ending e = go(now, q, place, town.quarrels.get(q).from);
            int end = e.how == OPEN ? 1000 : e.minute;
            if (end > latest) {
                latest = end;
                best = place;
            }
        }
        return yes(best);
    }

    int moor(int q) {
        if (!quarrel0(q)) {
            return no(1);
        }
        for (int from = 0; from < 60; from++) {
            for (int place = 0; place < town.places; place++) {
                if (isWon(go(now, q, place, from))) {
                    return yes(10 * from + place);
                }
            }
        }
        return yes(-2);
    }

    int bricks(int q) {
        if (!quarrel0(q)) {
            return no(1);
        }
        for (int many = 0; many <= town.sights.size(); many++) {
            for (int set = 0; set < 1 << town.sights.size(); set++) {
                State s = now.copy();
                if (Integer.bitCount(set) == many && (set & bits(now.bricked)) == 0) {
                    s.bricked.addAll(setOf(set));
                    if (isWon(go(s, q))) {
                        return yes(set);
                    }
                }
            }
        }
        return yes(-2);
    }

    private int hiring(int q) {
        for (int shillings = 0; shillings <= 120; shillings++) {
            for (int set = 0; set < 64; set++) {
                if (cost(set, q) == shillings) {
                    State s = now.copy();
                    for (int p : setOf(set)) {
                        s.sent.put(p, town.quarrels.get(q).place);
                    }
                    if (go(s, q).how == 0) {
                        return set;
                    }
                }
            }
        }
        return -2;
    }

    private int cost(int set, int q) {
        int sum = 0;
        for (int p : setOf(set)) {
            boolean can = p < town.people.size() && town.people.get(p).shillings != null && !now.sent.containsKey(p)
                && town.quarrels.get(q).one != p && town.quarrels.get(q).other != p;
            if (!can) {
                return -1;
            }
            sum += town.people.get(p).shillings;
        }
        return sum;
    }

    int stoppers(int q) {
        return quarrel0(q) ? yes(hiring(q)) : no(1);
    }

    int price(int q) {
        if (!quarrel0(q)) {
            return no(1);
        }
        int set = hiring(q);
        return yes(set < 0 ? -2 : cost(set, q));
    }

    int stoppedIf(int p, int place) {
        if (!person0(p) || !place0(place)) {
            return no(1);
        }
        if (town.people.get(p).shillings == null) {
            return no(5);
        }
        State s = now.copy();
        s.sent.put(p, place);
        return yes(stopped(s));
    }

    int bestHire() {
        if (town == null) {
            return no(1);
        }
        int best = -2;
        int most = Integer.bitCount(stopped(now));
        for (int p = 0; p < town.people.size(); p++) {
            for (int place = 0; place < town.places && town.people.get(p).shillings != null; place++) {
                State s = now.copy();
                s.sent.put(p, place);
                int many = Integer.bitCount(stopped(s));
                if (many > most) {
                    most = many;
                    best = 10 * p + place;
                }
            }
        }
        return yes(best);
    }

    /** Gives a set of unsure ones their other wits: the wits of all ahead of it. */
    private List<Integer> swap(int set) {
        List<Integer> wits = new ArrayList<>();
        for (Person p : town.people) {
            wits.add(p.wit);
        }
        for (int i = 0; i < town.unsure.size(); i++) {
            if ((set & 1 << i) != 0) {
                town.people.get(town.unsure.get(i)[0]).wit = town.unsure.get(i)[1];
            }
        }
        return wits;
    }

    private void swapBack(List<Integer> wits) {
        for (int p = 0; p < wits.size(); p++) {
            town.people.get(p).wit = wits.get(p);
        }
    }

    /** Quarrels told to have ended that wouldn't so by a set of other wits. */
    private List<Integer> unlike(int set) {
        List<Integer> wits = swap(set);
        List<Integer> wrong = new ArrayList<>();
        for (int q = 0; q < town.quarrels.size(); q++) {
            Integer told = town.quarrels.get(q).endedAt;
            Ending e = go(new State(), q);
            if (told != null && (e.how == OPEN || e.minute != told)) {
                wrong.add(q);
            }
        }
        swapBack(wits);
        return wrong;
    }

    /** When a quarrel would end by a set of other wits, for texts that tell it. */
    int endsAtBySet(int q, int set) {
        List<Integer> wits = swap(set);
        int minute = go(new State(), q).minute;
        swapBack(wits);
        return minute;
    }

    private List<Integer> fitting() {
        List<Integer> sets = new ArrayList<>();
        for (int set = 0; set < 1 << town.unsure.size(); set++) {
            if (unlike(set).isEmpty()) {
                sets.add(set);
            }
        }
        return sets;
    }

    int fits() {
        return town == null ? no(1) : yes(fitting().size());
    }

    int fitAt(int i) {
        return town == null || i < 0 || i >= fitting().size() ? no(1) : yes(fitting().get(i));
    }

    int could() {
        return town == null ? no(1) : yes(fitting().stream().reduce(0, (a, b) -> a | b));
    }

    int surely() {
        return town == null ? no(1) : yes(fitting().stream().reduce((a, b) -> a & b).orElse(0));
    }

    private long left(int i) {
        long with = fitting().stream().filter(set -> (set & 1 << i) != 0).count();
        return Math.max(with, fitting().size() - with);
    }

    int ask() {
        if (town == null) {
            return no(1);
        }
        int best = -2;
        for (int i = 0; i < town.unsure.size() && !fitting().isEmpty(); i++) {
            best = best < 0 || left(i) < left(best) ? i : best;
        }
        return yes(best);
    }

    int askLeaves() {
        int i = ask();
        return i < 0 ? i : (int) left(i);
    }

    int judge() {
        return town == null ? no(1) : yes(unlike(0).isEmpty() ? -2 : unlike(0).get(0));
    }

    private static long terms(BigInteger upper, BigInteger lower, boolean ofLower) {
        BigInteger g = upper.gcd(lower);
        return (ofLower ? lower : upper).divide(g).longValueExact();
    }

    long swings(int p, int place, int minute, boolean lower) {
        if (!person0(p) || !place0(place)) {
            return no(1);
        }
        if (!minute0(minute)) {
            return no(2);
        }
        Set<Integer> who = see(now, place, minute);
        int his = who.remove(p) ? eyesOne(p) : 0;
        int sets = 0;
        int turned = 0;
        for (int set = 0; set < 64; set++) {
            if (who.containsAll(setOf(set))) {
                sets++;
                int sum = eyesAll(setOf(set));
                turned += sum < 6 && sum + his >= 6 ? 1 : 0;
            }
        }
        trouble = 0;
        return terms(BigInteger.valueOf(turned), BigInteger.valueOf(sets), lower);
    }

    int three(int place, int minute) {
        if (!place0(place)) {
            return no(1);
        }
        if (!minute0(minute)) {
            return no(2);
        }
        for (int many = 0; many <= 6; many++) {
            for (int set = 0; set < 64; set++) {
                boolean all = see(now, place, minute).containsAll(setOf(set));
                if (all && Integer.bitCount(set) == many && eyesAll(setOf(set)) >= 6) {
                    return yes(set);
                }
            }
        }
        return yes(-2);
    }

    /** What the one and the other one have, by pairs: both wait, the other says, the one says, both say. */
    private static int[][] pays(int heat) {
        return new int[][] {{2, 2}, {-heat, 4}, {4, -heat}, {1 - heat, 1 - heat}};
    }

    int says(int heat, boolean one, boolean other, boolean ofOther) {
        if (town == null || heat < 0 || heat > 9) {
            no(town == null ? 1 : 2);
            return -100;
        }
        return yes(pays(heat)[(one ? 2 : 0) + (other ? 1 : 0)][ofOther ? 1 : 0]);
    }

    private static List<Integer> resting(int heat) {
        List<Integer> pairs = new ArrayList<>();
        for (int pair = 0; pair < 4; pair++) {
            int[][] pays = pays(heat);
            if (pays[pair][0] >= pays[pair ^ 2][0] && pays[pair][1] >= pays[pair ^ 1][1]) {
                pairs.add(List.of(0, 1, 10, 11).get(pair));
            }
        }
        return pairs;
    }

    int rests(int heat) {
        return town == null ? no(1) : heat < 0 || heat > 9 ? no(2) : yes(resting(heat).size());
    }

    int rest(int heat) {
        return town == null ? no(1) : heat < 0 || heat > 9 ? no(2)
            : yes(resting(heat).isEmpty() ? -2 : resting(heat).get(0));
    }

    long lasts(int q, int n, boolean lower) {
        if (!quarrel0(q)) {
            return no(1);
        }
        if (n < 0 || n > 6) {
            return no(2);
        }
        Quarrel x = town.quarrels.get(q);
        BigInteger all = BigInteger.valueOf(100).pow(n);
        BigInteger good = BigInteger.ZERO;
        for (int way = 0; way < 1 << n; way++) {
            boolean[] comes = new boolean[60 + 6];
            BigInteger weight = BigInteger.ONE;
            for (int i = 0; i < n; i++) {
                boolean one = (way & 1 << i) != 0;
                comes[x.from + i] = one;
                weight = weight.multiply(BigInteger.valueOf(one ? town.boys : 100 - town.boys));
            }
            Ending e = go(now, q, x.place, x.from, comes);
            if (e.how != 0 || e.minute >= x.from + n) {
                good = good.add(weight);
            }
        }
        trouble = 0;
        return terms(good, all, lower);
    }

    private long seed;

    private Ending goBy(int q) {
        Quarrel x = town.quarrels.get(q);
        boolean[] comes = new boolean[60];
        long[] seeds = new long[60];
        long s = seed;
        for (int m = x.from; m < 60; m++) {
            s = (75 * s + 74) % 65537;
            seeds[m] = s;
            comes[m] = s % 100 < town.boys;
        }
        Ending e = go(now, q, x.place, x.from, comes);
        seed = seeds[e.minute < 0 ? 59 : e.minute];
        return e;
    }

    int endsBy(int q, int start) {
        if (!quarrel0(q)) {
            return no(1);
        }
        seed = start;
        return start < 0 || start > 65536 ? no(2) : yes(goBy(q).how);
    }

    int endsByAt(int q, int start) {
        if (!quarrel0(q)) {
            return no(1);
        }
        seed = start;
        return start < 0 || start > 65536 ? no(2) : yes(goBy(q).minute);
    }

    int wins(int q, int start, int n) {
        if (!quarrel0(q)) {
            return no(1);
        }
        if (start < 0 || start > 65536 || n < 0 || n > 30) {
            return no(2);
        }
        seed = start;
        int many = 0;
        for (int i = 0; i < n; i++) {
            many += isWon(goBy(q)) ? 1 : 0;
        }
        return yes(many);
    }

    private void keep() {
        past.addLast(now.copy());
        if (past.size() > 16) {
            past.removeFirst();
        }
    }

    private boolean can(boolean allowed, int why) {
        trouble = allowed ? 0 : why;
        return allowed;
    }

    boolean brick(int k) {
        if (!can(sight0(k), 1) || !can(!now.bricked.contains(k), 5)) {
            return false;
        }
        keep();
        return now.bricked.add(k);
    }

    boolean open(int k) {
        if (!can(sight0(k), 1) || !can(now.bricked.contains(k), 5)) {
            return false;
        }
        keep();
        return now.bricked.remove(k);
    }

    int hire(int p, int place) {
        if (!person0(p) || !place0(place)) {
            return no(1);
        }
        Integer shillings = town.people.get(p).shillings;
        if (shillings == null || Integer.valueOf(place).equals(now.sent.get(p))) {
            return no(5);
        }
        keep();
        now.sent.put(p, place);
        now.spent += shillings;
        return yes(shillings);
    }

    boolean dismiss(int p) {
        if (!can(person0(p), 1) || !can(now.sent.containsKey(p), 5)) {
            return false;
        }
        keep();
        now.sent.remove(p);
        return true;
    }

    int spent() {
        return town == null ? no(1) : yes(now.spent);
    }

    boolean undo() {
        if (!can(!past.isEmpty(), 6)) {
            return false;
        }
        now = past.removeLast();
        return true;
    }

    int image() {
        if (town == null) {
            return no(1);
        }
        if (images.size() == 3) {
            return no(3);
        }
        images.add(now.copy());
        return yes(images.size() - 1);
    }

    boolean back(int image) {
        if (!can(image >= 0 && image < images.size(), 1)) {
            return false;
        }
        now = images.get(image).copy();
        past.clear();
        return true;
    }

    int led(int i) {
        List<Integer> open = new ArrayList<>();
        for (int q = 0; town != null && q < town.quarrels.size(); q++) {
            if (go(now, q).how == OPEN) {
                open.add(q);
            }
        }
        if (i < 0 || i >= open.size()) {
            throw new NoSuchElementException();
        }
        return open.get(i);
    }

    int size(int what) {
        if (what < 0 || what > 11) {
            return -1;
        }
        if (what > 8) {
            return what == 9 ? past.size() : what == 10 ? images.size() : tape.length();
        }
        if (town == null) {
            return 0;
        }
        int hirable = (int) town.people.stream().filter(p -> p.shillings != null).count();
        int ended = (int) town.quarrels.stream().filter(q -> q.endedAt != null).count();
        return new int[] {town.boys, town.places, town.sights.size(), town.people.size(), town.goings,
            town.quarrels.size(), hirable, town.unsure.size(), ended}[what];
    }

    int trouble() {
        return trouble;
    }
}
