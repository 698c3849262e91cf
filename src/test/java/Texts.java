import java.util.ArrayList;
import java.util.List;
import java.util.Random;

/** Random texts of towns: sound ones, and ones spoilt somewhere. */
final class Texts {
    private static final String[] KINDS = {"plain", "deaf", "blind", "babe", "plain", "plain"};
    private static final String[] SORTS = {"sees", "goes", "quarrel", "hire", "unsure", "sees", "goes", "quarrel",
        "hire", "person", "place"};
    private static final String[] BITS = {"town", "place", "sees", "person", "goes", "quarrel", "hire", "unsure",
        "ended", "boys", "at", "wit", "from", "needs", "for", "plain", "deaf", "blind", "babe", ";", "0", "1", "9",
        "10", "59", "60", "99", "100", "101", "1000", "abcdefgh", "abcdefghi", "A", "-", "\u00e9", "pa", "na", "qa"};

    private final Random random;
    private final List<String> lines = new ArrayList<>();
    private int places;
    private int people;
    private int quarrels;
    private final List<Integer> latest = new ArrayList<>();

    Texts(Random random) {
        this.random = random;
    }

    private int below(int bound) {
        return random.nextInt(bound);
    }

    private String place() {
        return "p" + (char) ('a' + below(places));
    }

    /** A text without a fault. */
    String sound() {
        lines.clear();
        latest.clear();
        int[] chances = {0, 100, 1, 99, 50, 20, 5, 33};
        lines.add("town boys " + chances[below(8)]);
        places = 0;
        people = 0;
        quarrels = 0;
        int most = 1 + below(5);
        for (int i = 0; i < most; i++) {
            lines.add("place p" + (char) ('a' + places++));
        }
        int crowd = below(10) == 0 ? below(3) : 3 + below(4);
        for (int i = 0; i < crowd; i++) {
            addPerson();
        }
        int more = below(30);
        for (int i = 0; i < more; i++) {
            addLine(SORTS[below(SORTS.length)]);
        }
        return String.join(below(4) == 0 ? " ; " : ";", lines);
    }

    private void addPerson() {
        if (people < 6) {
            String name = "n" + (char) ('a' + people++);
            lines.add("person " + name + " " + KINDS[below(6)] + " at " + place() + " wit " + below(10));
            latest.add(0);
        }
    }

    private void addLine(String sort) {
        if (sort.equals("person")) {
            addPerson();
        } else if (sort.equals("place") && places < 6) {
            lines.add("place p" + (char) ('a' + places++));
        } else if (sort.equals("sees") && places > 1) {
            String line = "sees " + place() + " " + place();
            String[] words = line.split(" ");
            if (!words[1].equals(words[2]) && count("sees") < 8) {
                addNew(line);
            }
        } else if (people > 0) {
            addOfPeople(sort);
        }
    }

    private void addOfPeople(String sort) {
        int p = below(people);
        String name = "n" + (char) ('a' + p);
        if (sort.equals("goes") && latest.get(p) < 59 && count("goes") < 10) {
            int minute = latest.get(p) + 1 + below(Math.min(20, 59 - latest.get(p)));
            latest.set(p, minute);
            lines.add("goes " + name + " " + place() + " at " + minute);
        } else if (sort.equals("hire")) {
            addNew("hire " + name + " for " + below(below(3) == 0 ? 3 : 21));
        } else if (sort.equals("unsure") && count("unsure") < 4) {
            addNew("unsure " + name + " " + below(10));
        } else if (sort.equals("quarrel") && quarrels < 3 && people > 1) {
            int other = (p + 1 + below(people - 1)) % people;
            int needs = 1 + below(below(3) == 0 ? 99 : 20);
            lines.add("quarrel q" + (char) ('a' + quarrels++) + " " + name + " n" + (char) ('a' + other)
                + " at " + place() + " from " + below(below(2) == 0 ? 60 : 10) + " needs " + needs);
        }
    }

    private int count(String sort) {
        return (int) lines.stream().filter(line -> line.startsWith(sort + " ")).count();
    }

    /** A line, unless its first two words stand already (three of a sight). */
    private void addNew(String line) {
        String[] words = line.split(" ");
        String head = words[0] + " " + words[1] + (words[0].equals("sees") ? " " + words[2] : "");
        for (String old : lines) {
            if (old.equals(head) || old.startsWith(head + " ")) {
                return;
            }
        }
        lines.add(line);
    }

    /** The text with lines that tell how its quarrels ended, by wits that some unsure ones might have. */
    String ended(String text) {
        Oracle o = new Oracle();
        feed(o, text);
        if (o.town(text.length()) < 0) {
            return text;
        }
        StringBuilder more = new StringBuilder(text);
        int set = below(16);
        for (int q = 0; q < quarrels; q++) {
            int minute = o.endsAtBySet(q, set);
            minute = below(8) == 0 ? below(60) : minute;
            if (below(3) != 0 && minute >= 0) {
                more.append(";ended q").append((char) ('a' + q)).append(" at ").append(minute);
            }
        }
        return more.toString();
    }

    static void feed(Oracle o, String text) {
        for (int from = 0; from < text.length(); from += 20) {
            int[] five = new int[5];
            for (int i = 0; i < 20; i++) {
                int sign = from + i < text.length() ? text.charAt(from + i) : ' ';
                five[i / 4] = five[i / 4] << 8 | sign & 255;
            }
            o.feed(five[0], five[1], five[2], five[3], five[4]);
        }
    }

    /** A text spoilt: tokens taken out, put in, changed or cut off, or bytes. */
    String spoilt(String text) {
        String now = text;
        int times = 1 + below(2);
        for (int i = 0; i < times; i++) {
            now = below(3) == 0 ? spoiltBytes(now) : spoiltTokens(now);
        }
        return now;
    }

    private String spoiltBytes(String text) {
        StringBuilder s = new StringBuilder(text);
        int at = below(s.length() + 1);
        if (below(4) == 0) {
            s.setLength(at);
        } else if (below(2) == 0 && at < s.length()) {
            s.deleteCharAt(at);
        } else {
            s.insert(at, BITS[below(BITS.length)]);
        }
        return s.toString();
    }

    private String spoiltTokens(String text) {
        List<String> tokens = new ArrayList<>(List.of(text.replace(";", " ; ").trim().split(" +")));
        int at = below(tokens.size());
        switch (below(5)) {
            case 0:
                tokens.remove(at);
                break;
            case 1:
                tokens.add(at, BITS[below(BITS.length)]);
                break;
            case 2:
                tokens.set(at, tokens.get(below(tokens.size())));
                break;
            case 3:
                tokens.addAll(line(tokens, at));
                break;
            default:
                tokens.set(at, BITS[below(BITS.length)]);
        }
        return String.join(" ", tokens);
    }

    /** The line in which a token stands, once more, behind a mark. */
    private static List<String> line(List<String> tokens, int at) {
        List<String> line = new ArrayList<>();
        int from = at;
        while (from > 0 && !tokens.get(from - 1).equals(";")) {
            from--;
        }
        line.add(";");
        for (int i = from; i < tokens.size() && !tokens.get(i).equals(";"); i++) {
            line.add(tokens.get(i));
        }
        return line;
    }
}
