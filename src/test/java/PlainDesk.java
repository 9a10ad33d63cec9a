import java.util.ArrayList;
import java.util.Arrays;
import java.util.List;

/** The document once more, in its plainest words: what RandomRunsTest holds the class against. */
final class PlainDesk {
    private static final int NOBODY = 12;
    private static final String LETTERS = "wsdlpqr";
    private static final int[] AT_FIRST = {60, 60, 5, 20, 2000, 300, 2};
    private static final int[] MOST = {120, 999, 99, 99, 9999, 9999, 9};

    private static final class Person {
        int subjects;
        int ages;
        int check;
        int liked;
        int barred;
        int state;
        int gap = -1;
        int missed;
        int worked;
        long paid;
        final int[] way = {30, 30, 30, 30, 30, 30};
    }

    private final List<Person> people = new ArrayList<>();
    private final List<int[]> gaps = new ArrayList<>();
    private final List<int[]> visits = new ArrayList<>();
    private final StringBuilder tape = new StringBuilder();
    private int[] numbers = AT_FIRST.clone();
    private int today;
    private int[] row;

    int feed(int[] five) {
        if (tape.length() + 20 > 60) {
            return -1;
        }
        for (int four : five) {
            for (int i = 3; i >= 0; i--) {
                tape.append((char) (four >>> 8 * i & 255));
            }
        }
        return tape.length();
    }

    int rules(int n) {
        if (n < 0 || n > tape.length()) {
            return -1;
        }
        String text = tape.substring(0, n);
        tape.setLength(0);
        int[] read = AT_FIRST.clone();
        int from = 0;
        while (true) {
            int kind = from < n ? LETTERS.indexOf(text.charAt(from)) : -1;
            if (kind < 0) {
                return 100 + from;
            }
            int to = from + 1;
            while (to < n && text.charAt(to) >= '0' && text.charAt(to) <= '9') {
                to++;
            }
            int digits = to - from - 1;
            if (digits == 0) {
                return 200 + from + 1;
            }
            if (digits > 4) {
                return 300 + from + 5;
            }
            int value = Integer.parseInt(text.substring(from + 1, to));
            if (value > MOST[kind] || kind == 6 && value == 0) {
                return 400 + from + 1;
            }
            read[kind] = value;
            if (to == n) {
                numbers = read;
                row = null;
                return 0;
            }
            if (text.charAt(to) != ';') {
                return 500 + to;
            }
            from = to + 1;
        }
    }

    int teacher(int subjects, int ages, int check) {
        if (people.size() == 12 || out(subjects, 255) || out(ages, 15) || out(check, 3000)) {
            return -1;
        }
        Person one = new Person();
        one.subjects = subjects;
        one.ages = ages;
        one.check = check;
        people.add(one);
        row = null;
        return people.size() - 1;
    }

    boolean way(int t, int school, int minutes) {
        if (noTeacher(t) || out(school, 5) || out(minutes, 200)) {
            return false;
        }
        people.get(t).way[school] = minutes;
        row = null;
        return true;
    }

    boolean likes(int t, int liked, int barred) {
        if (noTeacher(t) || out(liked, 63) || out(barred, 63)) {
            return false;
        }
        people.get(t).liked = liked;
        people.get(t).barred = barred;
        row = null;
        return true;
    }

    int gap(int... five) {
        if (gaps.size() == 10 || out(five[0], 5) || out(five[1], 15) || out(five[2], 7) || out(five[3], 3)
                || out(five[4], 8) || five[4] == 0) {
            return -1;
        }
        gaps.add(five.clone());
        row = null;
        return gaps.size() - 1;
    }

    int can(int t, int g) {
        return noTeacher(t) || noGap(g) ? -1 : fills(t, g) ? 1 : 0;
    }

    int cost(int t, int g) {
        if (can(t, g) != 1) {
            return -1;
        }
        Person one = people.get(t);
        int[] gap = gaps.get(g);
        int sum = one.way[gap[0]] + one.worked * numbers[2];
        sum += (one.subjects & 1 << gap[2]) == 0 ? numbers[1] : 0;
        sum -= (one.liked & 1 << gap[0]) != 0 ? numbers[3] : 0;
        return sum < 0 ? 0 : sum;
    }

    int match() {
        return (int) Arrays.stream(findRow()).filter(t -> t != NOBODY).count();
    }

    int costs() {
        int sum = 0;
        for (int g = 0; g < gaps.size(); g++) {
            sum += findRow()[g] == NOBODY ? 0 : cost(findRow()[g], g);
        }
        return sum;
    }

    int who(int g) {
        if (noGap(g)) {
            return -1;
        }
        for (int t = 0; t < people.size(); t++) {
            if (people.get(t).gap == g) {
                return t;
            }
        }
        return findRow()[g] == NOBODY ? -1 : findRow()[g];
    }

    int next() {
        int best = -1;
        long bestKey = Long.MAX_VALUE;
        for (int g = 0; g < gaps.size(); g++) {
            int t = findRow()[g];
            if (t != NOBODY) {
                long key = 1000L * people.get(t).missed + 100 * (8 - gaps.get(g)[4]) + g;
                if (key < bestKey) {
                    bestKey = key;
                    best = t;
                }
            }
        }
        return best;
    }

    boolean answer(int t, int how) {
        if (noTeacher(t) || out(how, 2)) {
            return false;
        }
        int g = 0;
        while (g < gaps.size() && findRow()[g] != t) {
            g++;
        }
        if (g == gaps.size()) {
            return false;
        }
        Person one = people.get(t);
        if (how == 0) {
            one.state = 1;
            one.gap = g;
        } else if (how == 1 || ++one.missed >= numbers[6]) {
            one.state = 2;
        }
        row = null;
        return true;
    }

    /** Tries all sets, each by finding whether its gaps can be filled one by one. */
    int hall() {
        int best = 0;
        for (int set = 1; set < 1 << gaps.size(); set++) {
            boolean smaller = best == 0 || Integer.bitCount(set) < Integer.bitCount(best);
            if (smaller && allOpen(set) && !fillable(set)) {
                best = set;
            }
        }
        return best;
    }

    int day() {
        if (today == 2000) {
            return -1;
        }
        for (int t = 0; t < people.size(); t++) {
            Person one = people.get(t);
            if (one.state == 1) {
                int[] gap = gaps.get(one.gap);
                one.worked++;
                one.paid += gap[4] * numbers[4];
                one.paid += (one.subjects & 1 << gap[2]) != 0 ? gap[4] * numbers[5] : 0;
                visits.add(new int[] {today, t, gap[0], gap[1]});
            }
            one.state = 0;
            one.gap = -1;
            one.missed = 0;
        }
        while (visits.size() > 400) {
            visits.remove(0);
        }
        gaps.clear();
        row = null;
        return ++today;
    }

    long pay(int t) {
        return noTeacher(t) ? 0 : people.get(t).paid;
    }

    int strangers(int school, int klass) {
        if (out(school, 5) || out(klass, 15)) {
            return -1;
        }
        return (int) visits.stream()
                .filter(v -> v[2] == school && v[3] == klass && v[0] >= today - 30)
                .mapToInt(v -> v[1]).distinct().count();
    }

    int look(int t, int what) {
        if (noTeacher(t)) {
            return -1;
        }
        Person one = people.get(t);
        int[] all = {one.subjects, one.ages, one.check, one.state, one.gap, one.missed, one.worked, one.liked,
            one.barred, -1, one.way[0], one.way[1], one.way[2], one.way[3], one.way[4], one.way[5]};
        return out(what, all.length - 1) ? -1 : all[what];
    }

    int about(int g, int what) {
        return noGap(g) || out(what, 4) ? -1 : gaps.get(g)[what];
    }

    int count(int what) {
        int sent = (int) people.stream().filter(p -> p.state == 1).count();
        int gone = (int) people.stream().filter(p -> p.state == 2).count();
        int[] all = {today, people.size(), gaps.size(), sent, gone, tape.length(), visits.size(), -1, -1, -1,
            numbers[0], numbers[1], numbers[2], numbers[3], numbers[4], numbers[5], numbers[6]};
        return out(what, all.length - 1) ? -1 : all[what];
    }

    private static boolean out(int value, int most) {
        return value < 0 || value > most;
    }

    private boolean noTeacher(int t) {
        return out(t, people.size() - 1);
    }

    private boolean noGap(int g) {
        return out(g, gaps.size() - 1);
    }

    private boolean fills(int t, int g) {
        Person one = people.get(t);
        int[] gap = gaps.get(g);
        return (one.ages & 1 << gap[3]) != 0 && (one.barred & 1 << gap[0]) == 0 && one.way[gap[0]] <= numbers[0]
                && one.check >= today;
    }

    private boolean isOpen(int g) {
        return people.stream().noneMatch(p -> p.gap == g);
    }

    private boolean allOpen(int set) {
        for (int g = 0; g < gaps.size(); g++) {
            if ((set & 1 << g) != 0 && !isOpen(g)) {
                return false;
            }
        }
        return true;
    }

    private boolean fillable(int set) {
        int[] gapOf = new int[people.size()];
        Arrays.fill(gapOf, -1);
        for (int g = 0; g < gaps.size(); g++) {
            if ((set & 1 << g) != 0 && !place(g, gapOf, new boolean[people.size()])) {
                return false;
            }
        }
        return true;
    }

    private boolean place(int g, int[] gapOf, boolean[] tried) {
        for (int t = 0; t < people.size(); t++) {
            if (!tried[t] && people.get(t).state == 0 && fills(t, g)) {
                tried[t] = true;
                if (gapOf[t] == -1 || place(gapOf[t], gapOf, tried)) {
                    gapOf[t] = g;
                    return true;
                }
            }
        }
        return false;
    }

    /** For the gaps from g on and each set of teachers used: 10 million a gap filled, less the least cost. */
    private int[] findRow() {
        if (row != null) {
            return row;
        }
        int many = gaps.size();
        int sets = 1 << people.size();
        int[][] costOf = new int[many][people.size()];
        for (int g = 0; g < many; g++) {
            for (int t = 0; t < people.size(); t++) {
                costOf[g][t] = isOpen(g) && people.get(t).state == 0 ? cost(t, g) : -1;
            }
        }
        long[][] best = new long[many + 1][sets];
        for (int g = many - 1; g >= 0; g--) {
            for (int used = 0; used < sets; used++) {
                best[g][used] = best[g + 1][used];
                for (int t = 0; t < people.size(); t++) {
                    if ((used & 1 << t) == 0 && costOf[g][t] >= 0) {
                        best[g][used] = Math.max(best[g][used], gain(best, costOf, g, used, t));
                    }
                }
            }
        }
        return row = leastRow(best, costOf);
    }

    private static long gain(long[][] best, int[][] costOf, int g, int used, int t) {
        return 10_000_000L - costOf[g][t] + best[g + 1][used | 1 << t];
    }

    private int[] leastRow(long[][] best, int[][] costOf) {
        int[] found = new int[gaps.size()];
        int used = 0;
        for (int g = 0; g < found.length; g++) {
            found[g] = NOBODY;
            for (int t = 0; t < people.size() && found[g] == NOBODY; t++) {
                boolean may = (used & 1 << t) == 0 && costOf[g][t] >= 0;
                if (may && gain(best, costOf, g, used, t) == best[g][used]) {
                    found[g] = t;
                    used |= 1 << t;
                }
            }
        }
        return found;
    }
}
