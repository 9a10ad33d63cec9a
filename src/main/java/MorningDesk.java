import java.util.Arrays;

/** The desk that calls at seven: gaps of a morning, teachers who may come, and who is sent where. */
public final class MorningDesk {
    public static final int NONE = -1;

    private static final int MOST_TEACHERS = 12;
    private static final int MOST_GAPS = 10;
    private static final int SCHOOLS = 6;
    private static final int CLASSES = 16;
    private static final int LAST_DAY = 2000;

    private static final int MOST_SUBJECTS = 255;
    private static final int MOST_AGES = 15;
    private static final int MOST_CHECK = 3000;
    private static final int MOST_MINUTES = 200;
    private static final int MOST_SCHOOL_BITS = 63;

    private static final int FREE = 0;
    private static final int SENT = 1;
    private static final int OUT = 2;

    private static final int YES = 0;
    private static final int NO = 1;
    private static final int NOT_REACHED = 2;

    private final Tape tape = new Tape();
    private final RuleBook ruleBook = new RuleBook();
    private final Teacher[] teachers = new Teacher[MOST_TEACHERS];
    private final Gap[] gaps = new Gap[MOST_GAPS];
    private final Visits visits = new Visits();
    private final Matching matching = new Matching();
    private int teacherCount;
    private int gapCount;
    private int today;

    public MorningDesk() {
    }

    public int feed(int a, int b, int c, int d, int e) {
        if (!tape.hasRoom()) {
            return NONE;
        }
        tape.append(a);
        tape.append(b);
        tape.append(c);
        tape.append(d);
        tape.append(e);
        return tape.size;
    }

    public int rules(int n) {
        if (!within(n, 0, tape.size)) {
            return NONE;
        }
        int fault = ruleBook.read(tape, n);
        tape.size = 0;
        return fault;
    }

    public int teacher(int subjects, int ages, int check) {
        if (teacherCount >= MOST_TEACHERS
                || !within(subjects, 0, MOST_SUBJECTS)
                || !within(ages, 0, MOST_AGES)
                || !within(check, 0, MOST_CHECK)) {
            return NONE;
        }
        teachers[teacherCount] = new Teacher(subjects, ages, check);
        teacherCount++;
        return teacherCount - 1;
    }

    public boolean way(int t, int school, int minutes) {
        Teacher one = teacherAt(t);
        if (one == null || !isSchool(school) || !within(minutes, 0, MOST_MINUTES)) {
            return false;
        }
        one.minutes[school] = minutes;
        return true;
    }

    public boolean likes(int t, int liked, int barred) {
        Teacher one = teacherAt(t);
        if (one == null
                || !within(liked, 0, MOST_SCHOOL_BITS)
                || !within(barred, 0, MOST_SCHOOL_BITS)) {
            return false;
        }
        one.liked = liked;
        one.barred = barred;
        return true;
    }

    public int gap(int school, int klass, int subject, int age, int hours) {
        if (gapCount >= MOST_GAPS
                || !isSchool(school)
                || !isClass(klass)
                || !within(subject, 0, 7)
                || !within(age, 0, 3)
                || !within(hours, 1, 8)) {
            return NONE;
        }
        gaps[gapCount] = new Gap(school, klass, subject, age, hours);
        gapCount++;
        return gapCount - 1;
    }

    public int can(int t, int g) {
        Teacher one = teacherAt(t);
        Gap place = gapAt(g);
        if (one == null || place == null) {
            return NONE;
        }
        return one.fills(place, ruleBook, today) ? 1 : 0;
    }

    public int cost(int t, int g) {
        Teacher one = teacherAt(t);
        Gap place = gapAt(g);
        if (one == null || place == null || !one.fills(place, ruleBook, today)) {
            return NONE;
        }
        return one.costFor(place, ruleBook);
    }

    public int match() {
        findMatch();
        return matching.filled();
    }

    public int costs() {
        findMatch();
        return matching.costInAll();
    }

    public int who(int g) {
        if (gapAt(g) == null) {
            return NONE;
        }
        int sent = sentTo(g);
        if (sent != NONE) {
            return sent;
        }
        findMatch();
        return matching.teacherFor(g);
    }

    public int next() {
        findMatch();
        int best = NONE;
        // Gap by gap from the lowest, so that of like ones the lowest gap's stays.
        for (int g = 0; g < gapCount; g++) {
            if (matching.teacherFor(g) != NONE && (best == NONE || isCalledAhead(g, best))) {
                best = g;
            }
        }
        return best == NONE ? NONE : matching.teacherFor(best);
    }

    public boolean answer(int t, int how) {
        Teacher one = teacherAt(t);
        if (one == null || !within(how, YES, NOT_REACHED)) {
            return false;
        }
        findMatch();
        int g = matching.gapFor(t);
        if (g == NONE) {
            return false;
        }
        one.takeAnswer(how, g, ruleBook.number(RuleBook.TRIES));
        return true;
    }

    public int hall() {
        offerAll();
        return matching.fewestUnfillable();
    }

    public int day() {
        if (today >= LAST_DAY) {
            return NONE;
        }
        for (int t = 0; t < teacherCount; t++) {
            endDayOf(t);
        }
        gapCount = 0;
        today++;
        return today;
    }

    public long pay(int t) {
        Teacher one = teacherAt(t);
        return one == null ? 0L : one.paid;
    }

    public int strangers(int school, int klass) {
        if (!isSchool(school) || !isClass(klass)) {
            return NONE;
        }
        return visits.teachersSeen(school, klass, today);
    }

    public int look(int t, int what) {
        Teacher one = teacherAt(t);
        if (one == null) {
            return NONE;
        }
        switch (what) {
            case 0: return one.subjects;
            case 1: return one.ages;
            case 2: return one.check;
            case 3: return one.state;
            case 4: return one.sentGap;
            case 5: return one.missed;
            case 6: return one.worked;
            case 7: return one.liked;
            case 8: return one.barred;
            default: return within(what, 10, 10 + SCHOOLS - 1) ? one.minutesTo(what - 10) : NONE;
        }
    }

    public int about(int g, int what) {
        Gap place = gapAt(g);
        if (place == null) {
            return NONE;
        }
        switch (what) {
            case 0: return place.school;
            case 1: return place.klass;
            case 2: return place.subject;
            case 3: return place.age;
            case 4: return place.hours;
            default: return NONE;
        }
    }

    public int count(int what) {
        switch (what) {
            case 0: return today;
            case 1: return teacherCount;
            case 2: return gapCount;
            case 3: return countInState(SENT);
            case 4: return countInState(OUT);
            case 5: return tape.size;
            case 6: return visits.kept;
            default: return within(what, 10, 10 + RuleBook.KINDS - 1) ? ruleBook.number(what - 10) : NONE;
        }
    }

    private static boolean within(int value, int least, int most) {
        return value >= least && value <= most;
    }

    private static boolean isSchool(int school) {
        return within(school, 0, SCHOOLS - 1);
    }

    private static boolean isClass(int klass) {
        return within(klass, 0, CLASSES - 1);
    }

    private static boolean hasBit(int bits, int place) {
        return ((bits >> place) & 1) == 1;
    }

    /** Null if there is no such teacher. */
    private Teacher teacherAt(int t) {
        return within(t, 0, teacherCount - 1) ? teachers[t] : null;
    }

    /** Null if there is no such gap today. */
    private Gap gapAt(int g) {
        return within(g, 0, gapCount - 1) ? gaps[g] : null;
    }

    private int sentTo(int g) {
        for (int t = 0; t < teacherCount; t++) {
            Teacher one = teacherAt(t);
            if (one != null && one.state == SENT && one.sentGap == g) {
                return t;
            }
        }
        return NONE;
    }

    private int countInState(int state) {
        int found = 0;
        for (int t = 0; t < teacherCount; t++) {
            Teacher one = teacherAt(t);
            if (one != null && one.state == state) {
                found++;
            }
        }
        return found;
    }

    private void findMatch() {
        offerAll();
        matching.solve();
    }

    private void offerAll() {
        matching.clear();
        for (int g = 0; g < gapCount; g++) {
            Gap place = gapAt(g);
            if (place != null && sentTo(g) == NONE) {
                matching.open(g);
                offerTeachers(g, place);
            }
        }
    }

    private void offerTeachers(int g, Gap place) {
        for (int t = 0; t < teacherCount; t++) {
            Teacher one = teacherAt(t);
            if (one != null && one.state == FREE && one.fills(place, ruleBook, today)) {
                matching.offer(g, t, one.costFor(place, ruleBook));
            }
        }
    }

    /** Whether the match's teacher for gap g is to be called ahead of the one for the lower gap h. */
    private boolean isCalledAhead(int g, int h) {
        Teacher one = teacherAt(matching.teacherFor(g));
        Teacher other = teacherAt(matching.teacherFor(h));
        Gap place = gapAt(g);
        Gap otherPlace = gapAt(h);
        if (one == null || other == null || place == null || otherPlace == null) {
            return false;
        }
        if (one.missed != other.missed) {
            return one.missed < other.missed;
        }
        return place.hours > otherPlace.hours;
    }

    private void endDayOf(int t) {
        Teacher one = teacherAt(t);
        if (one == null) {
            return;
        }
        Gap place = gapAt(one.sentGap);
        if (one.state == SENT && place != null) {
            one.workAt(place, ruleBook);
            visits.keep(t, place, today);
        }
        one.startDay();
    }

    /** Bytes that were fed and not yet read as rules. */
    private static final class Tape {
        static final int MOST_BYTES = 60;
        static final int BYTES_A_FEED = 20;

        private final byte[] bytes = new byte[MOST_BYTES];
        int size;

        boolean hasRoom() {
            return size + BYTES_A_FEED <= MOST_BYTES;
        }

        void append(int four) {
            for (int shift = 24; shift >= 0 && size < MOST_BYTES; shift -= 8) {
                bytes[size] = (byte) (four >> shift);
                size++;
            }
        }

        /** The byte at a place ahead of the end; NONE at the end. */
        int signAt(int place, int end) {
            return place >= 0 && place < end && place < MOST_BYTES ? bytes[place] & 255 : NONE;
        }
    }

    /** The numbers of the rules that count, and the reader of their text. */
    private static final class RuleBook {
        static final int LONGEST_WAY = 0;
        static final int OTHER_SUBJECT = 1;
        static final int DAY_WORKED = 2;
        static final int LIKED_SCHOOL = 3;
        static final int HOUR_PAY = 4;
        static final int SUBJECT_PAY = 5;
        static final int TRIES = 6;
        static final int KINDS = 7;

        private static final int NO_LETTER = 1;
        private static final int NO_DIGIT = 2;
        private static final int FIFTH_DIGIT = 3;
        private static final int WRONG_NUMBER = 4;
        private static final int WRONG_END = 5;
        private static final int MOST_DIGITS = 4;

        private static final char[] LETTERS = {'w', 's', 'd', 'l', 'p', 'q', 'r'};
        private static final int[] AT_FIRST = {60, 60, 5, 20, 2000, 300, 2};
        private static final int[] LEAST = {0, 0, 0, 0, 0, 0, 1};
        private static final int[] MOST = {120, 999, 99, 99, 9999, 9999, 9};

        private final int[] numbers = new int[KINDS];
        private final int[] draft = new int[KINDS];
        private int place;

        RuleBook() {
            System.arraycopy(AT_FIRST, 0, numbers, 0, KINDS);
        }

        int number(int kind) {
            return kind >= 0 && kind < KINDS ? numbers[kind] : NONE;
        }

        /** 0, and the text's rules count; or 100 times a fault's number and its place. */
        int read(Tape text, int end) {
            System.arraycopy(AT_FIRST, 0, draft, 0, KINDS);
            place = 0;
            // Each clause takes bytes, so there are no more of them than bytes.
            for (int clause = 0; clause <= end; clause++) {
                int fault = readClause(text, end);
                if (fault != 0) {
                    return 100 * fault + place;
                }
                if (place >= end) {
                    break;
                }
                place++;
            }
            System.arraycopy(draft, 0, numbers, 0, KINDS);
            return 0;
        }

        /** Puts a clause into the draft: 0, the place is behind it; or a fault's number, the place is the fault's. */
        private int readClause(Tape text, int end) {
            int kind = kindOf(text.signAt(place, end));
            if (kind == NONE) {
                return NO_LETTER;
            }
            place++;
            if (!isDigit(text.signAt(place, end))) {
                return NO_DIGIT;
            }
            int firstDigit = place;
            int value = readDigits(text, end);
            if (isDigit(text.signAt(place, end))) {
                return FIFTH_DIGIT;
            }
            if (value < LEAST[kind] || value > MOST[kind]) {
                place = firstDigit;
                return WRONG_NUMBER;
            }
            draft[kind] = value;
            return place < end && text.signAt(place, end) != ';' ? WRONG_END : 0;
        }

        private int readDigits(Tape text, int end) {
            int value = 0;
            for (int digits = 0; digits < MOST_DIGITS && isDigit(text.signAt(place, end)); digits++) {
                value = 10 * value + text.signAt(place, end) - '0';
                place++;
            }
            return value;
        }

        private static boolean isDigit(int sign) {
            return sign >= '0' && sign <= '9';
        }

        private static int kindOf(int sign) {
            for (int kind = 0; kind < KINDS; kind++) {
                if (LETTERS[kind] == sign) {
                    return kind;
                }
            }
            return NONE;
        }
    }

    /** A gap of today. */
    private static final class Gap {
        final int school;
        final int klass;
        final int subject;
        final int age;
        final int hours;

        Gap(int school, int klass, int subject, int age, int hours) {
            this.school = school;
            this.klass = klass;
            this.subject = subject;
            this.age = age;
            this.hours = hours;
        }
    }

    /** What is known of a teacher, and what became of them today. */
    private static final class Teacher {
        private static final int MINUTES_AT_FIRST = 30;

        final int subjects;
        final int ages;
        final int check;
        final int[] minutes = new int[SCHOOLS];
        int liked;
        int barred;
        int state;
        int sentGap;
        int missed;
        int worked;
        long paid;

        Teacher(int subjects, int ages, int check) {
            this.subjects = subjects;
            this.ages = ages;
            this.check = check;
            Arrays.fill(minutes, MINUTES_AT_FIRST);
            startDay();
        }

        void startDay() {
            state = FREE;
            sentGap = NONE;
            missed = 0;
        }

        int minutesTo(int school) {
            return school >= 0 && school < SCHOOLS ? minutes[school] : NONE;
        }

        boolean fills(Gap place, RuleBook book, int day) {
            return hasBit(ages, place.age)
                    && !hasBit(barred, place.school)
                    && minutesTo(place.school) <= book.number(RuleBook.LONGEST_WAY)
                    && check >= day;
        }

        int costFor(Gap place, RuleBook book) {
            int sum = minutesTo(place.school) + worked * book.number(RuleBook.DAY_WORKED);
            if (!hasBit(subjects, place.subject)) {
                sum += book.number(RuleBook.OTHER_SUBJECT);
            }
            if (hasBit(liked, place.school)) {
                sum -= book.number(RuleBook.LIKED_SCHOOL);
            }
            return Math.max(sum, 0);
        }

        void takeAnswer(int how, int g, int tries) {
            if (how == YES) {
                state = SENT;
                sentGap = g;
                return;
            }
            if (how == NOT_REACHED) {
                missed++;
            }
            // New rules may have made the tries fewer than the misses, hence not only when they are like.
            if (how == NO || missed >= tries) {
                state = OUT;
            }
        }

        void workAt(Gap place, RuleBook book) {
            int anHour = book.number(RuleBook.HOUR_PAY);
            if (hasBit(subjects, place.subject)) {
                anHour += book.number(RuleBook.SUBJECT_PAY);
            }
            worked++;
            paid += (long) anHour * place.hours;
        }
    }

    /** The latest visits of classes by teachers, in a ring. */
    private static final class Visits {
        private static final int MOST_KEPT = 400;
        private static final int DAYS_ASKED = 30;

        private final byte[] visitors = new byte[MOST_KEPT];
        private final byte[] rooms = new byte[MOST_KEPT];
        private final short[] days = new short[MOST_KEPT];
        private int nextSlot;
        int kept;

        void keep(int t, Gap place, int day) {
            if (nextSlot < 0 || nextSlot >= MOST_KEPT) {
                nextSlot = 0;
            }
            visitors[nextSlot] = (byte) t;
            rooms[nextSlot] = (byte) roomOf(place.school, place.klass);
            days[nextSlot] = (short) day;
            nextSlot++;
            kept = Math.min(kept + 1, MOST_KEPT);
        }

        int teachersSeen(int school, int klass, int day) {
            int room = roomOf(school, klass);
            int seen = 0;
            for (int slot = 0; slot < kept && slot < MOST_KEPT; slot++) {
                if (rooms[slot] == room && day - days[slot] <= DAYS_ASKED) {
                    seen |= 1 << visitors[slot];
                }
            }
            return Integer.bitCount(seen);
        }

        private static int roomOf(int school, int klass) {
            return CLASSES * school + klass;
        }
    }

    /**
     * The match of open gaps and offered teachers. Gaps come in one by one; each comes in by the cheapest chain
     * (it takes a teacher, whose gap takes another, and so on), which keeps the match the best for those that are in.
     */
    private static final class Matching {
        private static final int NOBODY = 12;
        private static final int DIGIT_BITS = 4;
        private static final int ROW_BITS = DIGIT_BITS * MOST_GAPS;
        private static final long CANNOT = -1L;
        private static final long FAR = 0x7fffffffffffffffL;
        // Ten gaps cost 10 * (120 + 999 + 99 * 2000) at most, below 1 << 21: so above all that costs and row can weigh.
        private static final long UNFILLED = 1L << (ROW_BITS + 21);

        // A cost above the row's bits, where each gap has a digit, gap 0 the highest: a sum of weights is least
        // for the least cost and, of like ones, for the least row. The last of a gap's is NOBODY's.
        private final long[][] weights = new long[MOST_GAPS][NOBODY + 1];
        private final int[] takers = new int[MOST_GAPS];
        private int openGaps;

        private final int[] teacherOf = new int[MOST_GAPS];
        private int taken;

        private final long[] toLose = new long[MOST_GAPS];
        private final int[] loserTo = new int[MOST_GAPS];

        void clear() {
            for (int g = 0; g < MOST_GAPS; g++) {
                Arrays.fill(weights[g], CANNOT);
            }
            Arrays.fill(takers, 0);
            Arrays.fill(teacherOf, NOBODY);
            openGaps = 0;
            taken = 0;
        }

        void open(int g) {
            if (isGap(g)) {
                openGaps |= 1 << g;
                weights[g][NOBODY] = UNFILLED + digit(g, NOBODY);
            }
        }

        void offer(int g, int t, int cost) {
            if (isGap(g) && t >= 0 && t < MOST_TEACHERS) {
                weights[g][t] = ((long) cost << ROW_BITS) + digit(g, t);
                takers[g] |= 1 << t;
            }
        }

        void solve() {
            for (int g = 0; g < MOST_GAPS; g++) {
                if (hasBit(openGaps, g)) {
                    bringIn(g);
                }
            }
        }

        int teacherFor(int g) {
            return isGap(g) && teacherOf[g] != NOBODY ? teacherOf[g] : NONE;
        }

        int gapFor(int t) {
            for (int g = 0; g < MOST_GAPS; g++) {
                if (teacherOf[g] != NOBODY && teacherOf[g] == t) {
                    return g;
                }
            }
            return NONE;
        }

        int filled() {
            int sum = 0;
            for (int g = 0; g < MOST_GAPS; g++) {
                if (teacherOf[g] != NOBODY) {
                    sum++;
                }
            }
            return sum;
        }

        int costInAll() {
            int sum = 0;
            for (int g = 0; g < MOST_GAPS; g++) {
                if (teacherOf[g] != NOBODY) {
                    sum += (int) (weightOf(g, teacherOf[g]) >> ROW_BITS);
                }
            }
            return sum;
        }

        /**
         * The least of the smallest sets that have fewer takers than gaps; 0 if there is none. By Hall's theorem
         * a smallest set that can't be filled is such a one, and each such one can't be filled.
         */
        int fewestUnfillable() {
            int found = 0;
            int fewest = MOST_GAPS + 1;
            for (int set = 1; set <= openGaps; set++) {
                if ((set & openGaps) != set) {
                    continue;
                }
                int size = Integer.bitCount(set);
                if (size < fewest && Integer.bitCount(takersOf(set)) < size) {
                    found = set;
                    fewest = size;
                }
            }
            return found;
        }

        private int takersOf(int set) {
            int all = 0;
            for (int g = 0; g < MOST_GAPS; g++) {
                if (hasBit(set, g)) {
                    all |= takers[g];
                }
            }
            return all;
        }

        private static boolean isGap(int g) {
            return g >= 0 && g < MOST_GAPS;
        }

        private static long digit(int g, int t) {
            return (long) t << (DIGIT_BITS * (MOST_GAPS - 1 - g));
        }

        private long weightOf(int g, int t) {
            return g >= 0 && g < MOST_GAPS && t >= 0 && t <= NOBODY ? weights[g][t] : CANNOT;
        }

        private void bringIn(int newGap) {
            findChains(newGap);
            int endGap = newGap;
            int endTeacher = NOBODY;
            long least = FAR;
            for (int g = 0; g <= newGap && g < MOST_GAPS; g++) {
                if (toLose[g] == FAR) {
                    continue;
                }
                int t = cheapestEnd(g);
                if (toLose[g] + weightOf(g, t) < least) {
                    least = toLose[g] + weightOf(g, t);
                    endGap = g;
                    endTeacher = t;
                }
            }
            shiftAlong(newGap, endGap, endTeacher);
        }

        /** How little is added if the new gap comes in and, by a chain, a gap loses its teacher to another. */
        private void findChains(int newGap) {
            Arrays.fill(toLose, FAR);
            Arrays.fill(loserTo, NONE);
            toLose[newGap] = 0L;
            boolean changed = true;
            // A chain goes through each gap once at most.
            for (int round = 0; round < MOST_GAPS && changed; round++) {
                changed = false;
                for (int g = 0; g <= newGap && g < MOST_GAPS; g++) {
                    if (toLose[g] != FAR && lengthenChains(g, newGap)) {
                        changed = true;
                    }
                }
            }
        }

        /** Lets gap g, which lost its teacher, take those of others; whether that is cheaper for one of them. */
        private boolean lengthenChains(int g, int newGap) {
            boolean changed = false;
            for (int h = 0; h < newGap && h < MOST_GAPS; h++) {
                int t = teacherOf[h];
                if (t == NOBODY || weightOf(g, t) == CANNOT) {
                    continue;
                }
                long added = toLose[g] + weightOf(g, t) - weightOf(h, t);
                if (added < toLose[h]) {
                    toLose[h] = added;
                    loserTo[h] = g;
                    changed = true;
                }
            }
            return changed;
        }

        /** The teacher of least weight for gap g whom no gap has; NOBODY if there is none. */
        private int cheapestEnd(int g) {
            int best = NOBODY;
            for (int t = 0; t < MOST_TEACHERS; t++) {
                boolean canCome = weightOf(g, t) != CANNOT && !hasBit(taken, t);
                if (canCome && weightOf(g, t) < weightOf(g, best)) {
                    best = t;
                }
            }
            return best;
        }

        private void shiftAlong(int newGap, int endGap, int endTeacher) {
            if (endTeacher != NOBODY) {
                taken |= 1 << endTeacher;
            }
            int g = endGap;
            int comes = endTeacher;
            for (int step = 0; step < MOST_GAPS && isGap(g); step++) {
                int goes = teacherOf[g];
                teacherOf[g] = comes;
                comes = goes;
                g = g == newGap ? NONE : loserTo[g];
            }
        }
    }
}
