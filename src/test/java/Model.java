import java.util.ArrayList;
import java.util.Comparator;
import java.util.HashSet;
import java.util.List;
import java.util.NoSuchElementException;
import java.util.Set;
import java.util.regex.Matcher;
import java.util.regex.Pattern;

/** The document told once more, slowly and in another way than the class, to compare the two. */
final class Model {
    private static final String[] NAMES =
        {"size", "weight", "goods", "lots", "owners", "hazard", "zone", "units", "dates", "days", "own"};
    private static final int[] LEAST = {0, 0, 1, 1, 1, 0, 0, 1, 0, 0, 0};
    private static final int[] MOST = {1, 100000, 20, 20, 20, 7, 7, 40, 1000, 1000, 3};
    private static final String NUMBER = "(0|[1-9][0-9]{0,5})";
    private static final Pattern LINE = Pattern.compile(NUMBER + " (?:(hazard|zone) " + NUMBER + " " + NUMBER
        + "|(size|weight|goods|lots|owners|units|dates|days|own) " + NUMBER + ")\n");
    private static final Pattern DIGITS = Pattern.compile("(?<![0-9])" + NUMBER);

    private record Rule(int number, int rank, int kind, int a, int b) { }

    private record Clash(int earlier, int later) { }

    private final int[][] places = new int[12][];
    private final List<int[]> units = new ArrayList<>();
    private final List<Rule> rules = new ArrayList<>();
    private final List<int[]> exceptions = new ArrayList<>();
    private final int[] says = new int[4];
    private final StringBuilder signs = new StringBuilder();
    private final Set<Integer> refused = new HashSet<>();
    private List<Integer> last = List.of();
    private int failures;

    private static final int GOOD = 0;
    private static final int LOT = 1;
    private static final int OWNER = 2;
    private static final int GRAMS = 6;
    private static final int HAZARD = 7;
    private static final int CLASS = 8;
    private static final int LAST_DAY = 9;
    private static final int STANDS = 10;

    Model() {
        for (int i = 0; i < 12; i++) {
            places[i] = new int[] {1000, 1000, 1000, 100000, 0};
        }
    }

    private static void range(int least, int n, int most) {
        if (n < least || n > most) {
            throw new IllegalArgumentException();
        }
    }

    private int[] known(int unit) {
        if (unit < 0 || unit >= units.size()) {
            throw new NoSuchElementException();
        }
        return units.get(unit);
    }

    private static void state(boolean right) {
        if (!right) {
            throw new IllegalStateException();
        }
    }

    private static void room(boolean right) {
        if (!right) {
            throw new UnsupportedOperationException();
        }
    }

    int place(int place, int width, int depth, int height) {
        range(0, place, 11);
        range(1, width, 9999);
        range(1, depth, 9999);
        range(1, height, 9999);
        places[place] = new int[] {width, depth, height, places[place][3], places[place][4]};
        return 0;
    }

    int limit(int place, int grams, int zone) {
        range(0, place, 11);
        range(0, grams, 10000000);
        range(0, zone, 7);
        int[] p = places[place];
        places[place] = new int[] {p[0], p[1], p[2], grams, zone};
        return 0;
    }

    int unit(int good, int lot, int owner) {
        range(0, good, 99);
        range(0, lot, 99);
        range(0, owner, 7);
        room(units.size() < 40);
        units.add(new int[] {good, lot, owner, 100, 100, 100, 1000, 0, 0, 1000, -1});
        return units.size() - 1;
    }

    int size(int unit, int width, int depth, int height, int grams) {
        int[] u = known(unit);
        range(1, width, 9999);
        range(1, depth, 9999);
        range(1, height, 9999);
        range(1, grams, 1000000);
        state(u[STANDS] == -1);
        u[3] = width;
        u[4] = depth;
        u[5] = height;
        u[GRAMS] = grams;
        return 0;
    }

    int nature(int unit, int hazard, int kind, int lastDay) {
        int[] u = known(unit);
        range(0, hazard, 7);
        range(0, kind, 7);
        range(0, lastDay, 1000);
        state(u[STANDS] == -1);
        u[HAZARD] = hazard;
        u[CLASS] = kind;
        u[LAST_DAY] = lastDay;
        return 0;
    }

    int rule(int rank, int kind, int a, int b) {
        range(1, rank, 100);
        range(0, kind, 10);
        range(LEAST[kind], a, MOST[kind]);
        range(0, b, kind == 5 || kind == 6 ? 7 : 0);
        room(rules.size() < 24);
        rules.add(new Rule(rules.size(), rank, kind, a, b));
        return rules.size() - 1;
    }

    int sign(int c) {
        if (signs.length() == 400) {
            return -1;
        }
        signs.append((char) (c & 255));
        return signs.length();
    }

    int read() {
        String text = signs.toString();
        signs.setLength(0);
        List<int[]> came = new ArrayList<>();
        int from = 0;
        while (from < text.length()) {
            if (rules.size() + came.size() == 24) {
                return -1 - from;
            }
            int feed = text.indexOf('\n', from);
            boolean ended = feed >= 0;
            String line = text.substring(from, ended ? feed + 1 : text.length());
            int wrong = firstWrong(line, ended);
            if (wrong >= 0) {
                return -1 - from - wrong;
            }
            came.add(parsed(line.trim()));
            from += line.length();
        }
        for (int[] r : came) {
            rule(r[0], r[1], r[2], r[3]);
        }
        return came.size();
    }

    /** The least sign that no line could have there, or at which a whole number out of range begins; -1 if none. */
    private static int firstWrong(String line, boolean ended) {
        int viable = 0;
        while (viable < line.length() && canBegin(line.substring(0, viable + 1))) {
            viable++;
        }
        int syntax = viable == line.length() && (ended || LINE.matcher(line + "\n").matches()) ? -1 : viable;
        String right = line.substring(0, viable);
        String[] parts = right.split(" ");
        Matcher numbers = DIGITS.matcher(right);
        for (int i = 0; numbers.find(); i++) {
            int value = Integer.parseInt(numbers.group(1));
            int least = 1;
            int most = 100;
            if (i > 0) {
                int kind = List.of(NAMES).indexOf(parts[1]);
                least = LEAST[kind];
                most = MOST[kind];
            }
            boolean whole = numbers.end() == line.length() || !Character.isDigit(line.charAt(numbers.end()));
            if (whole && (value < least || value > most)) {
                return numbers.start();
            }
        }
        return syntax;
    }

    private static boolean canBegin(String prefix) {
        Matcher matcher = LINE.matcher(prefix);
        return matcher.matches() || matcher.hitEnd();
    }

    private static int[] parsed(String line) {
        String[] parts = line.split(" ");
        return new int[] {Integer.parseInt(parts[0]), List.of(NAMES).indexOf(parts[1]), Integer.parseInt(parts[2]),
            parts.length > 3 ? Integer.parseInt(parts[3]) : 0};
    }

    int own(int k, int what) {
        range(0, k, 3);
        range(0, what, 3);
        says[k] = what;
        return 0;
    }

    int except(int rule, int place, int owner, int until) {
        if (rule < 0 || rule >= rules.size()) {
            throw new NoSuchElementException();
        }
        range(-1, place, 11);
        range(-1, owner, 7);
        range(0, until, 1000);
        for (int[] e : exceptions) {
            if (e[0] == rule && e[1] == place && e[2] == owner) {
                e[3] = Math.max(e[3], until);
                return 0;
            }
        }
        room(exceptions.size() < 20);
        exceptions.add(new int[] {rule, place, owner, until});
        return 0;
    }

    int may(int unit, int place, int day) {
        known(unit);
        range(0, place, 11);
        range(0, day, 1000);
        List<Integer> refusing = new ArrayList<>();
        rules.stream().sorted(Comparator.comparingInt(Rule::rank).thenComparingInt(Rule::number)).forEach(r -> {
            if (!excepted(r.number, place, units.get(unit)[OWNER], day) && refuses(r, unit, place, day)) {
                refusing.add(r.number);
            }
        });
        refused.addAll(refusing);
        last = refusing;
        return refusing.isEmpty() ? 0 : refusing.get(0) + 1;
    }

    private boolean excepted(int rule, int place, int owner, int day) {
        return exceptions.stream().anyMatch(e -> e[0] == rule && (e[1] == -1 || e[1] == place)
            && (e[2] == -1 || e[2] == owner) && day <= e[3]);
    }

    private boolean refuses(Rule r, int unit, int place, int day) {
        int[] u = units.get(unit);
        List<int[]> others = units.stream().filter(o -> o != u && o[STANDS] == place).toList();
        List<int[]> together = new ArrayList<>(others);
        together.add(u);
        int othersGrams = others.stream().mapToInt(o -> o[GRAMS]).sum();
        switch (r.kind) {
            case 0: return r.a == 0 ? !fits(u, place, 0) && !fits(u, place, 2) : turned(unit, place) == -1;
            case 1: return u[GRAMS] + othersGrams > places[place][3] - r.a;
            case 2: return together.stream().map(o -> o[GOOD]).distinct().count() > r.a;
            case 3: return together.stream().filter(o -> o[GOOD] == u[GOOD]).map(o -> o[LOT]).distinct().count() > r.a;
            case 4: return together.stream().map(o -> o[OWNER]).distinct().count() > r.a;
            case 5: return others.stream().anyMatch(o -> u[HAZARD] == r.a && o[HAZARD] == r.b
                || u[HAZARD] == r.b && o[HAZARD] == r.a);
            case 6: return u[CLASS] == r.a && places[place][4] != r.b;
            case 7: return together.size() > r.a;
            case 8: return together.stream().anyMatch(o -> together.stream().anyMatch(
                q -> o[LAST_DAY] - q[LAST_DAY] > r.a));
            case 9: return u[LAST_DAY] < day + r.a;
            default:
                failures += says[r.a] == 3 ? 1 : 0;
                return says[r.a] == 1 || says[r.a] == 3 || says[r.a] == 2 && u[GRAMS] > othersGrams;
        }
    }

    private boolean fits(int[] u, int place, int way) {
        String order = new String[] {"345", "354", "435", "453", "534", "543"}[way];
        for (int i = 0; i < 3; i++) {
            if (u[order.charAt(i) - '0'] > places[place][i]) {
                return false;
            }
        }
        return true;
    }

    int explain(int i) {
        range(0, i, Integer.MAX_VALUE);
        return i < last.size() ? last.get(i) : -1;
    }

    int put(int unit, int place, int day) {
        int[] u = known(unit);
        range(0, place, 11);
        range(0, day, 1000);
        state(u[STANDS] != place);
        int answer = may(unit, place, day);
        if (answer == 0) {
            u[STANDS] = place;
        }
        return answer;
    }

    int take(int unit) {
        int[] u = known(unit);
        state(u[STANDS] != -1);
        u[STANDS] = -1;
        return 0;
    }

    int turned(int unit, int place) {
        int[] u = known(unit);
        range(0, place, 11);
        for (int way = 0; way < 6; way++) {
            if (fits(u, place, way)) {
                return way;
            }
        }
        return -1;
    }

    int never(int i) {
        range(0, i, Integer.MAX_VALUE);
        return rules.stream().map(Rule::number).filter(n -> !refused.contains(n)).skip(i).findFirst().orElse(-1);
    }

    int clash(int i, int side) {
        range(0, i, Integer.MAX_VALUE);
        range(0, side, 1);
        List<Clash> all = clashes();
        if (i >= all.size()) {
            return -1;
        }
        return side == 0 ? all.get(i).earlier : all.get(i).later;
    }

    private List<Clash> clashes() {
        List<Clash> all = new ArrayList<>();
        for (Rule later : rules) {
            for (Rule earlier : rules.subList(0, later.number)) {
                if (earlier.rank == later.rank && earlier.kind == later.kind) {
                    all.add(new Clash(earlier.number, later.number));
                }
            }
        }
        return all;
    }

    int at(int place, int i) {
        range(0, place, 11);
        range(0, i, Integer.MAX_VALUE);
        List<Integer> there = new ArrayList<>();
        for (int u = 0; u < units.size(); u++) {
            if (units.get(u)[STANDS] == place) {
                there.add(u);
            }
        }
        return i < there.size() ? there.get(i) : -1;
    }

    int count(int what) {
        int[] all = {rules.size(), units.size(), exceptions.size(), clashes().size(), signs.length(), failures};
        return what < 0 || what > 5 ? -1 : all[what];
    }
}
