import java.util.Arrays;
import java.util.Random;

/**
 * THE MATCH, TO CALL next and THE HALL by the document's words alone: all ways are written out one by one and held
 * against each other, without a weight or a theorem. Promises 10 to 15.
 */
public final class AllWaysTest {
    private static final Due DUE = new Due();
    private static final int SCENES = 400;
    // A scene of five gaps, five teachers and six rounds asks fewer than 512 calls.
    private static final int MOST = 5;
    private static final int ROUNDS = 6;
    private static final int FOR_NONE = 12;
    private static final int CANNOT = -1;
    private static final int FREE = 0;

    private final Random random;
    private final MorningDesk desk = new MorningDesk();
    private final String name;
    private int teachers;
    private int gaps;
    private int[] hours;
    private int[] missed;
    private int[] sentTo;
    private int[][] costOf;
    private int[] best;

    private AllWaysTest(int seed) {
        random = new Random(seed);
        name = "scene " + seed + ", ";
    }

    public static void main(String[] args) {
        for (int seed = 0; seed < SCENES; seed++) {
            new AllWaysTest(seed).run();
        }
        DUE.end();
    }

    private void run() {
        makeScene();
        for (int round = 0; round < ROUNDS; round++) {
            lookAround();
            best = null;
            oneGapMore(new int[gaps], 0, 0);
            match();
            next();
            hall();
            someAnswer();
        }
    }

    /** Few kinds of ways and ages, so that many ways are like ones. */
    private void makeScene() {
        Due.rules(desk, "s" + 10 * random.nextInt(3) + ";r" + (1 + random.nextInt(3)));
        teachers = 1 + random.nextInt(MOST);
        for (int t = 0; t < teachers; t++) {
            desk.teacher(random.nextInt(4), 1 + random.nextInt(7), 9);
            desk.likes(t, random.nextInt(4), random.nextInt(6) == 0 ? 1 + random.nextInt(2) : 0);
            desk.way(t, 0, 10 * random.nextInt(8));
            desk.way(t, 1, 10 * random.nextInt(8));
        }
        gaps = 1 + random.nextInt(MOST);
        hours = new int[gaps];
        for (int g = 0; g < gaps; g++) {
            hours[g] = 1 + random.nextInt(3);
            desk.gap(random.nextInt(2), g, random.nextInt(2), random.nextInt(3), hours[g]);
        }
    }

    private void lookAround() {
        missed = new int[teachers];
        sentTo = new int[teachers];
        costOf = new int[gaps][teachers];
        for (int t = 0; t < teachers; t++) {
            missed[t] = desk.look(t, 5);
            sentTo[t] = desk.look(t, 4);
        }
        for (int t = 0; t < teachers; t++) {
            boolean free = desk.look(t, 3) == FREE;
            for (int g = 0; g < gaps; g++) {
                costOf[g][t] = free && isOpen(g) ? desk.cost(t, g) : CANNOT;
            }
        }
    }

    private boolean isOpen(int g) {
        return Arrays.stream(sentTo).noneMatch(sent -> sent == g);
    }

    private boolean may(int t, int g, int used) {
        return costOf[g][t] != CANNOT && (used & 1 << t) == 0;
    }

    private void oneGapMore(int[] row, int g, int used) {
        if (g == gaps) {
            if (best == null || isBetter(row, best)) {
                best = row.clone();
            }
            return;
        }
        // None comes first here, so that it is the comparing, not the order, that finds the best.
        row[g] = FOR_NONE;
        oneGapMore(row, g + 1, used);
        for (int t = teachers - 1; t >= 0; t--) {
            if (may(t, g, used)) {
                row[g] = t;
                oneGapMore(row, g + 1, used | 1 << t);
            }
        }
    }

    private boolean isBetter(int[] row, int[] other) {
        if (filledBy(row) != filledBy(other)) {
            return filledBy(row) > filledBy(other);
        }
        if (costInAll(row) != costInAll(other)) {
            return costInAll(row) < costInAll(other);
        }
        return Arrays.compare(row, other) < 0;
    }

    private static int filledBy(int[] row) {
        return (int) Arrays.stream(row).filter(t -> t != FOR_NONE).count();
    }

    private int costInAll(int[] row) {
        int sum = 0;
        for (int g = 0; g < gaps; g++) {
            sum += row[g] == FOR_NONE ? 0 : costOf[g][row[g]];
        }
        return sum;
    }

    private void match() {
        DUE.is(name + "match", desk.match(), filledBy(best));
        DUE.is(name + "costs", desk.costs(), costInAll(best));
        for (int g = 0; g < gaps; g++) {
            if (isOpen(g)) {
                DUE.is(name + "who " + g, desk.who(g), best[g] == FOR_NONE ? -1 : best[g]);
            }
        }
    }

    private void next() {
        int ahead = -1;
        for (int g = 0; g < gaps; g++) {
            if (best[g] != FOR_NONE && (ahead < 0 || isAhead(g, ahead))) {
                ahead = g;
            }
        }
        DUE.is(name + "next", desk.next(), ahead < 0 ? -1 : best[ahead]);
    }

    private boolean isAhead(int g, int other) {
        int less = Integer.compare(missed[best[g]], missed[best[other]]);
        return less < 0 || less == 0 && hours[g] > hours[other];
    }

    private void hall() {
        int fewest = 0;
        for (int set = 1; set < 1 << gaps; set++) {
            boolean fewer = fewest == 0 || Integer.bitCount(set) < Integer.bitCount(fewest);
            if (fewer && allOpen(set) && !canAllBeFilled(set, 0)) {
                fewest = set;
            }
        }
        DUE.is(name + "hall", desk.hall(), fewest);
    }

    private boolean allOpen(int set) {
        for (int g = 0; g < gaps; g++) {
            if ((set & 1 << g) != 0 && !isOpen(g)) {
                return false;
            }
        }
        return true;
    }

    private boolean canAllBeFilled(int set, int used) {
        if (set == 0) {
            return true;
        }
        int g = Integer.numberOfTrailingZeros(set);
        for (int t = 0; t < teachers; t++) {
            if (may(t, g, used) && canAllBeFilled(set & ~(1 << g), used | 1 << t)) {
                return true;
            }
        }
        return false;
    }

    private void someAnswer() {
        int t = random.nextInt(teachers);
        int how = random.nextInt(3);
        int g = 0;
        while (g < gaps && best[g] != t) {
            g++;
        }
        DUE.is(name + "answer of " + t, desk.answer(t, how), g < gaps);
        if (g < gaps && how == 0) {
            DUE.is(name + "sent to the match's gap", desk.look(t, 4), g);
        }
    }
}
