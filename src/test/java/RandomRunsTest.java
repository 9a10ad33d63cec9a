import java.util.Random;

/** All promises at once: runs of 512 calls, each answer held against PlainDesk's. */
public final class RandomRunsTest {
    private static final Due DUE = new Due();
    private static final int CALLS = 512;
    // The most calls that one step of a run can take.
    private static final int A_STEP = 12;
    private static final int A_DAY = 37;
    private static final int STRANGERS = 9;
    private static final int[] WILD = {Integer.MIN_VALUE, -1, 0, 1, 5, 6, 8, 9, 10, 12, 16, 60, 64, 201, 256,
        Integer.MAX_VALUE};

    private final Random random;
    private final boolean busy;
    private final boolean months;
    private final MorningDesk desk = new MorningDesk();
    private final PlainDesk plain = new PlainDesk();

    private RandomRunsTest(long seed) {
        random = new Random(seed);
        // Busy runs reach twelve teachers and ten gaps with many likes in their costs.
        busy = seed % 2 == 0;
        // Runs of months go beyond the 30 days of a stranger, with few classes so that they are seen again.
        months = seed % 3 == 2;
    }

    public static void main(String[] args) {
        int runs = args.length > 0 ? Integer.parseInt(args[0]) : 120;
        for (int seed = 0; seed < runs; seed++) {
            new RandomRunsTest(seed).run(seed);
        }
        DUE.end();
    }

    private void run(int seed) {
        int from = DUE.asked();
        while (DUE.asked() - from <= CALLS - A_STEP) {
            String where = "run " + seed + ", call " + (DUE.asked() - from) + ": ";
            if (random.nextInt(3) == 0) {
                change(where);
            } else {
                ask(where);
            }
        }
    }

    private int upTo(int most) {
        return random.nextInt(25) == 0 ? WILD[random.nextInt(WILD.length)] : random.nextInt(most + 1);
    }

    private int someSchool() {
        return upTo(months ? 1 : 5);
    }

    private int someClass() {
        return upTo(busy && !months ? 15 : 1);
    }

    private int bits(int most) {
        return random.nextInt(25) == 0 ? WILD[random.nextInt(WILD.length)]
                : random.nextInt(most + 1) | random.nextInt(most + 1);
    }

    private int fewBits(int most) {
        return bits(most) & random.nextInt(most + 1) & random.nextInt(most + 1);
    }

    private void change(String where) {
        int kind = months && random.nextInt(3) == 0 ? A_DAY : random.nextInt(40);
        int t = upTo(11);
        if (kind < 9) {
            int subjects = bits(255);
            int ages = busy ? bits(15) : fewBits(15);
            int check = random.nextInt(6) == 0 ? upTo(20) : upTo(3000);
            DUE.is(where + "teacher", desk.teacher(subjects, ages, check), plain.teacher(subjects, ages, check));
        } else if (kind < 21) {
            int[] five = {someSchool(), someClass(), upTo(7), upTo(3), 1 + upTo(7)};
            DUE.is(where + "gap", desk.gap(five[0], five[1], five[2], five[3], five[4]), plain.gap(five));
        } else if (kind < 25) {
            int school = upTo(5);
            int minutes = busy ? 5 * upTo(13) : upTo(90);
            DUE.is(where + "way", desk.way(t, school, minutes), plain.way(t, school, minutes));
        } else if (kind < 27) {
            int liked = bits(63);
            int barred = fewBits(63);
            DUE.is(where + "likes", desk.likes(t, liked, barred), plain.likes(t, liked, barred));
        } else if (kind < 36) {
            int asked = random.nextInt(4) == 0 ? t : plain.next();
            int how = upTo(2);
            DUE.is(where + "answer", desk.answer(asked, how), plain.answer(asked, how));
        } else if (kind <= A_DAY) {
            DUE.is(where + "day", desk.day(), plain.day());
        } else {
            newRules(where);
        }
    }

    private void newRules(String where) {
        StringBuilder text = new StringBuilder();
        for (int clause = random.nextInt(4); clause >= 0; clause--) {
            char letter = "wsdlpqr".charAt(random.nextInt(7));
            int most = letter == 'r' ? 9 : letter == 'w' ? 120 : letter == 'd' || letter == 'l' ? 99 : 999;
            text.append(letter).append(letter == 'r' ? 1 + random.nextInt(9) : random.nextInt(most + 1));
            text.append(clause > 0 ? ";" : "");
        }
        if (random.nextInt(3) == 0) {
            char sign = "wr0919;x ".charAt(random.nextInt(9));
            text.insert(random.nextInt(text.length() + 1), sign);
        }
        int length = text.length();
        for (int from = 0; from < length; from += 20) {
            int[] five = new int[5];
            for (int i = 0; i < 5; i++) {
                five[i] = Due.four(text.toString(), from + 4 * i);
            }
            DUE.is(where + "feed", desk.feed(five[0], five[1], five[2], five[3], five[4]), plain.feed(five));
        }
        int n = random.nextInt(8) == 0 ? upTo(60) : length;
        DUE.is(where + "rules " + n + " of " + text, desk.rules(n), plain.rules(n));
    }

    private void ask(String where) {
        int t = upTo(11);
        int g = upTo(9);
        switch (months && random.nextBoolean() ? STRANGERS : random.nextInt(13)) {
            case 0 -> DUE.is(where + "can", desk.can(t, g), plain.can(t, g));
            case 1 -> DUE.is(where + "cost", desk.cost(t, g), plain.cost(t, g));
            case 2, 3 -> DUE.is(where + "match", desk.match(), plain.match());
            case 4 -> DUE.is(where + "costs", desk.costs(), plain.costs());
            case 5 -> DUE.is(where + "who " + g, desk.who(g), plain.who(g));
            case 6 -> askAllWho(where);
            case 7 -> DUE.is(where + "next", desk.next(), plain.next());
            case 8 -> DUE.is(where + "hall", desk.hall(), plain.hall());
            case STRANGERS -> {
                int school = someSchool();
                int klass = someClass();
                DUE.is(where + "strangers", desk.strangers(school, klass), plain.strangers(school, klass));
            }
            case 10 -> {
                DUE.is(where + "pay", desk.pay(t), plain.pay(t));
                int what = upTo(16);
                DUE.is(where + "look " + t + " " + what, desk.look(t, what), plain.look(t, what));
            }
            case 11 -> {
                int what = upTo(5);
                DUE.is(where + "about " + g + " " + what, desk.about(g, what), plain.about(g, what));
            }
            default -> {
                int what = upTo(17);
                DUE.is(where + "count " + what, desk.count(what), plain.count(what));
            }
        }
    }

    private void askAllWho(String where) {
        for (int g = -1; g <= 10; g++) {
            DUE.is(where + "who " + g, desk.who(g), plain.who(g));
        }
    }
}
