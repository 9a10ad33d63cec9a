/** Boundary cases of FILL, COST, THE MATCH, TO CALL next, ANSWERS and THE HALL: promises 8 to 15. */
public final class EdgeMatchTest {
    private static final Due DUE = new Due();
    private static final int NEVER = 61;
    // Ten places, so laid out that there is for each two that follow one another a teacher who can go there alone.
    private static final int[] CHAIN_SCHOOLS = {0, 0, 1, 1, 2, 2, 3, 3, 4, 4};
    private static final int[] CHAIN_AGES = {0, 1, 1, 2, 2, 3, 3, 0, 0, 1};

    public static void main(String[] args) {
        fillEachAge();
        fillEachBarredSchool();
        fillWayAtFirst60();
        fillWayOf0();
        fillWayOf120();
        fillCheckEndsToday();
        fillOfOneSentOrOut();
        costIs0AtLeast();
        costOfEachSubject();
        costOfEachLikedSchool();
        costAtTheLeastRules();
        costAtTheMostRules();
        costNoneIfTheyCannot();
        matchEmpty();
        matchFull();
        matchOneTeacherForTenGaps();
        matchTwelveTeachersForOneGap();
        matchMostGapsAheadOfCost();
        matchLeastCostAheadOfRow();
        matchClampsEachCost();
        match12ForNoneIsTheHighest();
        matchLeastRowAtTheLastGap();
        matchLowerGapAheadOfLaterOnes();
        matchLongestChainDownwards();
        matchLongestChainUpwards();
        matchOnlyFreeTeachersAndOpenGaps();
        whoIsSentThoughTheyCanNoMore();
        nextNobody();
        nextLeastOftenNotReached();
        nextMostHours();
        nextLowestGap();
        answerWhenR1();
        answerWhenR9();
        answerAtFirstTwice();
        answerCountsTodayAlone();
        answerWhenRIsLowered();
        answerOfOneNotFree();
        answerOfOneNotInTheMatch();
        answerYesSendsToTheMatchsGap();
        hallNone();
        hallOfOneGap();
        hallOfAllTen();
        hallFewestAheadOfLeast();
        hallOfLikeOnesTheLeast();
        hallWithoutGapsThatAreSent();
        hallWithFreeTeachersAlone();
        DUE.end();
    }

    private static void teachers(MorningDesk desk, int many) {
        for (int t = 0; t < many; t++) {
            desk.teacher(255, 15, 3000);
        }
    }

    private static void gaps(MorningDesk desk, int many) {
        for (int g = 0; g < many; g++) {
            desk.gap(0, 0, 0, 0, 1);
        }
    }

    private static MorningDesk withBoth(int teachers, int gaps) {
        MorningDesk desk = new MorningDesk();
        teachers(desk, teachers);
        gaps(desk, gaps);
        return desk;
    }

    private static void fillEachAge() {
        for (int ages = 0; ages < 16; ages++) {
            MorningDesk desk = new MorningDesk();
            desk.teacher(0, ages, 0);
            for (int age = 0; age < 4; age++) {
                desk.gap(0, 0, 0, age, 1);
                DUE.is("age " + age + " of " + ages, desk.can(0, age), ages >> age & 1);
            }
        }
    }

    private static void fillEachBarredSchool() {
        for (int barred = 0; barred < 64; barred++) {
            MorningDesk desk = new MorningDesk();
            desk.teacher(0, 1, 0);
            desk.likes(0, 63, barred);
            for (int school = 0; school < 6; school++) {
                desk.gap(school, 0, 0, 0, 1);
                DUE.is("school " + school + " of " + barred, desk.can(0, school), 1 - (barred >> school & 1));
            }
        }
    }

    private static void canBeOnTheWay(MorningDesk desk, int minutes, int due) {
        desk.way(0, 0, minutes);
        DUE.is("a way of " + minutes, desk.can(0, 0), due);
        DUE.is("the match for a way of " + minutes, desk.match(), due);
    }

    private static void fillWayAtFirst60() {
        MorningDesk desk = withBoth(1, 1);
        canBeOnTheWay(desk, 0, 1);
        canBeOnTheWay(desk, 59, 1);
        canBeOnTheWay(desk, 60, 1);
        canBeOnTheWay(desk, 61, 0);
        canBeOnTheWay(desk, 200, 0);
    }

    private static void fillWayOf0() {
        MorningDesk desk = withBoth(1, 1);
        Due.rules(desk, "w0");
        canBeOnTheWay(desk, 0, 1);
        canBeOnTheWay(desk, 1, 0);
    }

    private static void fillWayOf120() {
        MorningDesk desk = withBoth(1, 1);
        Due.rules(desk, "w120");
        canBeOnTheWay(desk, 120, 1);
        canBeOnTheWay(desk, 121, 0);
        canBeOnTheWay(desk, 200, 0);
    }

    private static void fillCheckEndsToday() {
        MorningDesk desk = new MorningDesk();
        for (int check = 0; check < 12; check++) {
            desk.teacher(0, 1, check);
        }
        for (int day = 0; day <= 12; day++) {
            desk.gap(0, 0, 0, 0, 1);
            for (int check = 0; check < 12; check++) {
                DUE.is("a check until " + check + " on day " + day, desk.can(check, 0), check >= day ? 1 : 0);
            }
            DUE.is("who on day " + day, desk.who(0), day == 12 ? -1 : day);
            desk.day();
        }
    }

    private static void fillOfOneSentOrOut() {
        MorningDesk desk = withBoth(2, 2);
        desk.answer(0, 0);
        desk.answer(1, 1);
        for (int t = 0; t < 2; t++) {
            for (int g = 0; g < 2; g++) {
                DUE.is("can still", desk.can(t, g), 1);
                DUE.is("costs still", desk.cost(t, g), 30);
            }
        }
    }

    private static void costIs0AtLeast() {
        MorningDesk desk = withBoth(1, 1);
        desk.likes(0, 1, 0);
        int[][] rows = {{0, 0}, {1, 0}, {19, 0}, {20, 0}, {21, 1}, {60, 40}};
        for (int[] row : rows) {
            desk.way(0, 0, row[0]);
            DUE.is("liked, a way of " + row[0], desk.cost(0, 0), row[1]);
            DUE.is("in all, a way of " + row[0], desk.costs(), row[1]);
        }
        desk.way(0, 0, 0);
        Due.rules(desk, "l99");
        DUE.is("99 less", desk.cost(0, 0), 0);
        // What is less is taken from the whole, not from the way alone.
        MorningDesk other = new MorningDesk();
        other.teacher(0, 1, 3000);
        other.likes(0, 1, 0);
        other.way(0, 0, 5);
        other.gap(0, 0, 0, 0, 1);
        Due.rules(other, "s60;l64");
        DUE.is("5 and 60 less 64", other.cost(0, 0), 1);
        Due.rules(other, "s60;l65");
        DUE.is("5 and 60 less 65", other.cost(0, 0), 0);
        Due.rules(other, "s60;l66");
        DUE.is("5 and 60 less 66", other.cost(0, 0), 0);
    }

    private static void costOfEachSubject() {
        for (int subjects = 0; subjects < 256; subjects++) {
            MorningDesk desk = new MorningDesk();
            desk.teacher(subjects, 1, 0);
            for (int subject = 0; subject < 8; subject++) {
                desk.gap(0, 0, subject, 0, 1);
                int due = (subjects >> subject & 1) == 1 ? 30 : 90;
                DUE.is("subject " + subject + " of " + subjects, desk.cost(0, subject), due);
            }
        }
    }

    private static void costOfEachLikedSchool() {
        for (int liked = 0; liked < 64; liked++) {
            MorningDesk desk = new MorningDesk();
            desk.teacher(1, 1, 0);
            desk.likes(0, liked, 0);
            for (int school = 0; school < 6; school++) {
                desk.gap(school, 0, 0, 0, 1);
                int due = (liked >> school & 1) == 1 ? 10 : 30;
                DUE.is("school " + school + " of " + liked, desk.cost(0, school), due);
            }
        }
    }

    private static MorningDesk workedTwoDays() {
        MorningDesk desk = new MorningDesk();
        desk.teacher(1, 1, 3000);
        for (int day = 0; day < 2; day++) {
            gaps(desk, 1);
            desk.answer(0, 0);
            desk.day();
        }
        desk.gap(0, 0, 0, 0, 1);
        desk.gap(0, 0, 7, 0, 1);
        return desk;
    }

    private static void costAtTheLeastRules() {
        MorningDesk desk = workedTwoDays();
        desk.likes(0, 1, 0);
        desk.way(0, 0, 0);
        Due.rules(desk, "w0;s0;d0;l0");
        DUE.is("their subject", desk.cost(0, 0), 0);
        DUE.is("another subject", desk.cost(0, 1), 0);
    }

    private static void costAtTheMostRules() {
        MorningDesk desk = workedTwoDays();
        desk.way(0, 0, 120);
        Due.rules(desk, "w120;s999;d99;l99");
        DUE.is("their subject", desk.cost(0, 0), 120 + 198);
        DUE.is("another subject", desk.cost(0, 1), 120 + 999 + 198);
        desk.likes(0, 1, 0);
        DUE.is("their subject, liked", desk.cost(0, 0), 120 + 198 - 99);
        DUE.is("another subject, liked", desk.cost(0, 1), 120 + 999 + 198 - 99);
    }

    private static void costNoneIfTheyCannot() {
        MorningDesk desk = withBoth(1, 1);
        desk.way(0, 0, NEVER);
        DUE.is("too far", desk.cost(0, 0), -1);
        desk.way(0, 0, 60);
        DUE.is("not too far", desk.cost(0, 0), 60);
        desk.likes(0, 0, 1);
        DUE.is("barred", desk.cost(0, 0), -1);
        MorningDesk other = new MorningDesk();
        other.teacher(255, 1, 0);
        other.gap(0, 0, 0, 1, 1);
        DUE.is("another age", other.cost(0, 0), -1);
        other.gap(0, 0, 0, 0, 1);
        DUE.is("their age", other.cost(0, 1), 30);
        other.day();
        other.gap(0, 0, 0, 0, 1);
        DUE.is("the check has ended", other.cost(0, 0), -1);
    }

    private static void noMatch(String what, MorningDesk desk) {
        DUE.is(what + ": match", desk.match(), 0);
        DUE.is(what + ": costs", desk.costs(), 0);
        DUE.is(what + ": who", desk.who(0), -1);
        DUE.is(what + ": next", desk.next(), -1);
        DUE.is(what + ": answer", desk.answer(0, 0), false);
    }

    private static void matchEmpty() {
        noMatch("nothing", new MorningDesk());
        noMatch("no gap", withBoth(12, 0));
        noMatch("no teacher", withBoth(0, 10));
        MorningDesk none = new MorningDesk();
        none.teacher(255, 0, 3000);
        none.gap(0, 0, 0, 0, 1);
        noMatch("nobody can", none);
    }

    private static void matchFull() {
        MorningDesk desk = withBoth(12, 10);
        DUE.is("ten", desk.match(), 10);
        DUE.is("ten at 30", desk.costs(), 300);
        for (int g = 0; g < 10; g++) {
            DUE.is("who " + g, desk.who(g), g);
        }
        DUE.is("no gap 10", desk.who(10), -1);
        desk.way(10, 0, 29);
        desk.way(11, 0, 29);
        DUE.is("the last two are cheaper", desk.costs(), 298);
        for (int g = 0; g < 10; g++) {
            DUE.is("who " + g + " then", desk.who(g), g < 8 ? g : g + 2);
        }
    }

    private static void matchOneTeacherForTenGaps() {
        MorningDesk desk = withBoth(1, 10);
        DUE.is("one gap", desk.match(), 1);
        DUE.is("its cost", desk.costs(), 30);
        for (int g = 0; g < 10; g++) {
            DUE.is("who " + g, desk.who(g), g == 0 ? 0 : -1);
        }
    }

    private static void matchTwelveTeachersForOneGap() {
        MorningDesk desk = withBoth(12, 1);
        DUE.is("one gap", desk.match(), 1);
        DUE.is("the lowest", desk.who(0), 0);
        desk.way(11, 0, 29);
        DUE.is("the cheapest", desk.who(0), 11);
        DUE.is("its cost", desk.costs(), 29);
    }

    /** The dearest two there can be are better than the cheapest one. */
    private static void matchMostGapsAheadOfCost() {
        MorningDesk desk = new MorningDesk();
        desk.teacher(0b10, 0b11, 9);
        desk.teacher(0, 0b01, 9);
        Due.rules(desk, "w120;s999;d99");
        desk.way(0, 0, 0);
        desk.way(0, 1, 120);
        desk.way(1, 0, 120);
        desk.gap(0, 0, 1, 0, 1);
        DUE.is("one, for nothing", desk.costs(), 0);
        desk.gap(1, 0, 0, 1, 1);
        DUE.is("two", desk.match(), 2);
        DUE.is("each costs the most", desk.costs(), 2 * (120 + 999));
        DUE.is("who 0", desk.who(0), 1);
        DUE.is("who 1", desk.who(1), 0);
    }

    private static void matchLeastCostAheadOfRow() {
        MorningDesk desk = new MorningDesk();
        teachers(desk, 2);
        desk.gap(0, 0, 0, 0, 1);
        desk.gap(1, 0, 0, 0, 1);
        desk.way(0, 1, 29);
        DUE.is("a minute less", desk.costs(), 59);
        DUE.is("who 0", desk.who(0), 1);
        DUE.is("who 1", desk.who(1), 0);
        desk.way(1, 1, 29);
        DUE.is("as much", desk.costs(), 59);
        DUE.is("the least row, gap 0", desk.who(0), 0);
        DUE.is("the least row, gap 1", desk.who(1), 1);
    }

    /** 0 at least is asked of each cost, not of the sum. */
    private static void matchClampsEachCost() {
        MorningDesk desk = withBoth(2, 2);
        desk.way(0, 0, 0);
        desk.likes(0, 1, 0);
        DUE.is("0 and 30", desk.costs(), 30);
    }

    private static void match12ForNoneIsTheHighest() {
        MorningDesk desk = new MorningDesk();
        for (int t = 0; t < 12; t++) {
            desk.teacher(255, t == 11 ? 1 : 0, 9);
        }
        gaps(desk, 10);
        DUE.is("one gap", desk.match(), 1);
        DUE.is("11 for gap 0", desk.who(0), 11);
        for (int g = 1; g < 10; g++) {
            DUE.is("none for " + g, desk.who(g), -1);
        }
        // Gap 1 with somebody and gap 0 with none would begin with 12.
        MorningDesk other = new MorningDesk();
        other.teacher(255, 0b01, 9);
        other.teacher(255, 0b11, 9);
        other.way(0, 0, NEVER);
        other.gap(0, 0, 0, 1, 1);
        other.gap(0, 0, 0, 0, 1);
        DUE.is("1 is less than 12", other.who(0), 1);
        DUE.is("12 comes later", other.who(1), -1);
    }

    private static void matchLeastRowAtTheLastGap() {
        MorningDesk desk = withBoth(12, 10);
        // Teachers 9, 10 and 11 cost as much: the last gap has the lowest of them.
        DUE.is("the last gap", desk.who(9), 9);
        desk.answer(9, 1);
        DUE.is("then the next", desk.who(9), 10);
        desk.answer(10, 1);
        DUE.is("then the last", desk.who(9), 11);
        DUE.is("in place", desk.who(8), 8);
        desk.answer(11, 1);
        DUE.is("then none", desk.who(9), -1);
        DUE.is("nine", desk.match(), 9);
        desk.answer(0, 1);
        DUE.is("all move on by one", desk.who(0), 1);
        DUE.is("up to gap 7", desk.who(7), 8);
        DUE.is("none for gap 8", desk.who(8), -1);
    }

    /** 0 and 11 is a lesser row than 1 and 0, at the first gaps and at the last. */
    private static void matchLowerGapAheadOfLaterOnes() {
        for (int first = 0; first <= 8; first++) {
            MorningDesk desk = new MorningDesk();
            for (int t = 0; t < 12; t++) {
                desk.teacher(255, t == 0 ? 0b0011 : t == 1 ? 0b0001 : t == 11 ? 0b0010 : 0, 9);
            }
            for (int g = 0; g < 10; g++) {
                desk.gap(0, 0, 0, g == first ? 0 : g == first + 1 ? 1 : 3, 1);
            }
            DUE.is("two", desk.match(), 2);
            DUE.is("the lower gap " + first + " has the lowest", desk.who(first), 0);
            DUE.is("the later has the highest", desk.who(first + 1), 11);
        }
    }

    /** Teacher t can go to the places t and t + 1, better to t; teacher 9 to place 0 alone. */
    private static MorningDesk withChain() {
        MorningDesk desk = new MorningDesk();
        for (int t = 0; t < 10; t++) {
            int from = t == 9 ? 0 : t;
            int to = t == 9 ? 0 : t + 1;
            desk.teacher(1 << from % 8, 1 << CHAIN_AGES[from] | 1 << CHAIN_AGES[to], 9);
            desk.likes(t, 0, 63 & ~(1 << CHAIN_SCHOOLS[from] | 1 << CHAIN_SCHOOLS[to]));
        }
        return desk;
    }

    private static void chainGap(MorningDesk desk, int place) {
        desk.gap(CHAIN_SCHOOLS[place], 0, place % 8, CHAIN_AGES[place], 1);
    }

    /** The last gap takes the one before's teacher, and so on down to gap 0. */
    private static void matchLongestChainDownwards() {
        MorningDesk desk = withChain();
        for (int place = 0; place < 9; place++) {
            chainGap(desk, place);
        }
        for (int g = 0; g < 9; g++) {
            DUE.is("the better place is " + g, desk.who(g), g);
        }
        DUE.is("nine in their subjects", desk.costs(), 9 * 30);
        chainGap(desk, 9);
        DUE.is("ten", desk.match(), 10);
        DUE.is("one in their subject", desk.costs(), 9 * 90 + 30);
        for (int g = 0; g < 10; g++) {
            DUE.is("moved on to " + g, desk.who(g), g == 0 ? 9 : g - 1);
        }
    }

    /** The last gap takes gap 0's teacher, gap 0 takes gap 1's, and so on up to gap 8. */
    private static void matchLongestChainUpwards() {
        MorningDesk desk = withChain();
        for (int place = 8; place >= 0; place--) {
            chainGap(desk, place);
        }
        for (int g = 0; g < 9; g++) {
            DUE.is("the better place is " + g, desk.who(g), 8 - g);
        }
        chainGap(desk, 9);
        DUE.is("ten", desk.match(), 10);
        DUE.is("the last", desk.who(9), 8);
        for (int g = 0; g < 9; g++) {
            DUE.is("moved on to " + g, desk.who(g), g == 8 ? 9 : 7 - g);
        }
    }

    private static void matchOnlyFreeTeachersAndOpenGaps() {
        MorningDesk desk = withBoth(3, 3);
        desk.answer(1, 0);
        DUE.is("a gap and a teacher less", desk.match(), 2);
        DUE.is("their cost", desk.costs(), 60);
        DUE.is("sent", desk.who(1), 1);
        desk.answer(0, 1);
        DUE.is("a teacher less", desk.match(), 1);
        DUE.is("the lower gap", desk.who(0), 2);
        DUE.is("none is left", desk.who(2), -1);
        desk.answer(2, 2);
        DUE.is("one who was not reached once is free", desk.match(), 1);
        desk.answer(2, 2);
        DUE.is("twice is out", desk.match(), 0);
        DUE.is("no cost", desk.costs(), 0);
        DUE.is("sent still", desk.who(1), 1);
    }

    private static void whoIsSentThoughTheyCanNoMore() {
        MorningDesk desk = withBoth(2, 1);
        desk.answer(0, 0);
        desk.likes(0, 0, 63);
        desk.way(0, 0, 200);
        DUE.is("can't fill it now", desk.can(0, 0), 0);
        DUE.is("is sent there", desk.who(0), 0);
        DUE.is("it is not open", desk.match(), 0);
        DUE.is("nor in the hall", desk.hall(), 0);
        desk.day();
        DUE.is("paid", desk.pay(0), 2300);
    }

    private static void nextNobody() {
        MorningDesk desk = withBoth(1, 1);
        DUE.is("somebody", desk.next(), 0);
        desk.answer(0, 0);
        DUE.is("all are sent", desk.next(), -1);
        desk.day();
        DUE.is("no gap on a new day", desk.next(), -1);
        gaps(desk, 1);
        DUE.is("somebody again", desk.next(), 0);
        desk.answer(0, 1);
        DUE.is("all are out", desk.next(), -1);
    }

    private static void nextLeastOftenNotReached() {
        MorningDesk desk = new MorningDesk();
        Due.rules(desk, "r9");
        teachers(desk, 2);
        desk.gap(0, 0, 0, 0, 8);
        desk.gap(0, 0, 0, 0, 1);
        for (int times = 0; times < 8; times++) {
            DUE.is("as often: most hours", desk.next(), 0);
            desk.answer(0, 2);
            DUE.is("less often, though of an hour", desk.next(), 1);
            desk.answer(1, 2);
        }
        desk.day();
        desk.gap(0, 0, 0, 0, 1);
        desk.gap(0, 0, 0, 0, 8);
        DUE.is("a new day: neither was called, most hours", desk.next(), 1);
    }

    private static void nextMostHours() {
        MorningDesk desk = new MorningDesk();
        teachers(desk, 10);
        for (int hours = 1; hours <= 8; hours++) {
            desk.gap(0, 0, 0, 0, hours);
            DUE.is("most hours: " + hours, desk.next(), hours - 1);
        }
        desk.gap(0, 0, 0, 0, 8);
        desk.gap(0, 0, 0, 0, 7);
        DUE.is("8 at gap 7, then at 8", desk.next(), 7);
        desk.answer(7, 0);
        DUE.is("8 at gap 8", desk.next(), 8);
    }

    /** The lowest gap, not the lowest teacher. */
    private static void nextLowestGap() {
        MorningDesk desk = new MorningDesk();
        for (int t = 0; t < 4; t++) {
            desk.teacher(255, 1 << t, 9);
        }
        for (int g = 0; g < 4; g++) {
            desk.gap(0, 0, 0, 3 - g, 5);
        }
        for (int g = 0; g < 4; g++) {
            DUE.is("for gap " + g, desk.next(), 3 - g);
            desk.answer(3 - g, 0);
        }
    }

    private static void missUntilOut(MorningDesk desk, int tries) {
        for (int times = 1; times <= tries; times++) {
            DUE.is("free before time " + times, desk.look(0, 3), 0);
            DUE.is("not reached, time " + times, desk.answer(0, 2), true);
            DUE.is("times", desk.look(0, 5), times);
        }
        DUE.is("out at " + tries, desk.look(0, 3), 2);
        DUE.is("one is out", desk.count(4), 1);
        DUE.is("refused then", desk.answer(0, 2), false);
        DUE.is("as often still", desk.look(0, 5), tries);
    }

    private static void answerWhenR1() {
        MorningDesk desk = withBoth(1, 1);
        Due.rules(desk, "r1");
        missUntilOut(desk, 1);
    }

    private static void answerWhenR9() {
        MorningDesk desk = withBoth(1, 1);
        Due.rules(desk, "r9");
        missUntilOut(desk, 9);
    }

    private static void answerAtFirstTwice() {
        missUntilOut(withBoth(1, 1), 2);
    }

    private static void answerCountsTodayAlone() {
        MorningDesk desk = withBoth(1, 1);
        for (int day = 0; day < 3; day++) {
            DUE.is("once a day", desk.answer(0, 2), true);
            DUE.is("once today", desk.look(0, 5), 1);
            DUE.is("free", desk.look(0, 3), 0);
            desk.day();
            DUE.is("not yet today", desk.look(0, 5), 0);
            gaps(desk, 1);
        }
        missUntilOut(desk, 2);
    }

    /** Rules alone send nobody out; the next time not reached is one of r times or more. */
    private static void answerWhenRIsLowered() {
        MorningDesk desk = withBoth(1, 1);
        Due.rules(desk, "r9");
        desk.answer(0, 2);
        desk.answer(0, 2);
        desk.answer(0, 2);
        Due.rules(desk, "r1");
        DUE.is("free still", desk.look(0, 3), 0);
        DUE.is("in the match still", desk.who(0), 0);
        desk.answer(0, 2);
        DUE.is("four times", desk.look(0, 5), 4);
        DUE.is("out", desk.look(0, 3), 2);
        MorningDesk other = withBoth(1, 1);
        other.answer(0, 2);
        Due.rules(other, "r3");
        other.answer(0, 2);
        DUE.is("twice of three", other.look(0, 3), 0);
        other.answer(0, 2);
        DUE.is("three times of three", other.look(0, 3), 2);
    }

    private static void answerOfOneNotFree() {
        for (int how = 0; how < 3; how++) {
            MorningDesk sent = withBoth(1, 2);
            sent.answer(0, 0);
            DUE.is("sent, answer " + how, sent.answer(0, how), false);
            DUE.is("sent still", sent.look(0, 3), 1);
            DUE.is("to gap 0 still", sent.look(0, 4), 0);
            DUE.is("reached", sent.look(0, 5), 0);
            MorningDesk out = withBoth(1, 2);
            out.answer(0, 1);
            DUE.is("out, answer " + how, out.answer(0, how), false);
            DUE.is("out still", out.look(0, 3), 2);
            DUE.is("nowhere", out.look(0, 4), -1);
            DUE.is("not missed", out.look(0, 5), 0);
        }
    }

    private static void answerOfOneNotInTheMatch() {
        for (int how = 0; how < 3; how++) {
            MorningDesk desk = withBoth(2, 1);
            DUE.is("free, but another is in the match", desk.answer(1, how), false);
            DUE.is("free still", desk.look(1, 3), 0);
            DUE.is("not missed", desk.look(1, 5), 0);
            desk.answer(0, 1);
            DUE.is("in the match now", desk.answer(1, how), true);
        }
    }

    private static void answerYesSendsToTheMatchsGap() {
        MorningDesk desk = withBoth(12, 10);
        for (int g = 9; g >= 0; g--) {
            DUE.is("yes of " + g, desk.answer(g, 0), true);
            DUE.is("sent to", desk.look(g, 4), g);
            DUE.is("state", desk.look(g, 3), 1);
            DUE.is("how many", desk.count(3), 10 - g);
        }
        DUE.is("no gap is left for 10", desk.answer(10, 0), false);
        DUE.is("no gap is left for 11", desk.answer(11, 0), false);
        DUE.is("ten are sent", desk.count(3), 10);
    }

    private static void hallNone() {
        DUE.is("nothing", new MorningDesk().hall(), 0);
        DUE.is("no gap", withBoth(12, 0).hall(), 0);
        DUE.is("all are filled", withBoth(10, 10).hall(), 0);
        DUE.is("one is too few", withBoth(9, 10).hall(), 1023);
        DUE.is("one for one", withBoth(1, 1).hall(), 0);
        DUE.is("none for one", withBoth(0, 1).hall(), 1);
    }

    /** One gap of ten is of an age that nobody teaches. */
    private static void hallOfOneGap() {
        for (int odd = 0; odd < 10; odd++) {
            MorningDesk desk = new MorningDesk();
            for (int t = 0; t < 12; t++) {
                desk.teacher(255, 0b0111, 9);
            }
            for (int g = 0; g < 10; g++) {
                desk.gap(0, 0, 0, g == odd ? 3 : 0, 1);
            }
            DUE.is("gap " + odd + " alone", desk.hall(), 1 << odd);
        }
    }

    private static void hallOfAllTen() {
        MorningDesk desk = withBoth(9, 10);
        DUE.is("all ten", desk.hall(), 1023);
        desk.teacher(255, 0b1110, 9);
        DUE.is("one more who can't", desk.hall(), 1023);
        desk.teacher(255, 0b0001, 9);
        DUE.is("one more who can", desk.hall(), 0);
    }

    private static void hallFewestAheadOfLeast() {
        MorningDesk desk = new MorningDesk();
        desk.teacher(255, 0b0001, 9);
        desk.teacher(255, 0b0001, 9);
        desk.teacher(255, 0b0010, 9);
        for (int g = 0; g < 8; g++) {
            desk.gap(0, 0, 0, 0, 1);
        }
        DUE.is("three of eight", desk.hall(), 0b111);
        desk.gap(0, 0, 0, 1, 1);
        DUE.is("still", desk.hall(), 0b111);
        desk.gap(0, 0, 0, 1, 1);
        DUE.is("two, of the highest bits", desk.hall(), 0b1100000000);
    }

    private static void hallOfLikeOnesTheLeast() {
        for (int first = 0; first < 9; first++) {
            MorningDesk desk = new MorningDesk();
            teachers(desk, 1);
            for (int g = 0; g < 10; g++) {
                desk.gap(g >= first ? 0 : 1, 0, 0, 0, 1);
            }
            for (int t = 1; t < 12; t++) {
                desk.teacher(255, 15, 9);
                desk.way(t, 0, NEVER);
            }
            desk.way(0, 1, NEVER);
            DUE.is("the lowest two from " + first, desk.hall(), 0b11 << first);
        }
        MorningDesk nobody = withBoth(0, 10);
        DUE.is("the lowest of ten", nobody.hall(), 1);
    }

    private static void hallWithoutGapsThatAreSent() {
        MorningDesk desk = withBoth(2, 3);
        DUE.is("three for two", desk.hall(), 0b111);
        desk.answer(0, 0);
        DUE.is("two for one", desk.hall(), 0b110);
        desk.answer(1, 0);
        DUE.is("one for none", desk.hall(), 0b100);
        desk.teacher(255, 15, 9);
        DUE.is("one for one", desk.hall(), 0);
        desk.answer(2, 0);
        DUE.is("all are sent", desk.hall(), 0);
    }

    private static void hallWithFreeTeachersAlone() {
        MorningDesk desk = withBoth(3, 3);
        DUE.is("three for three", desk.hall(), 0);
        desk.answer(2, 2);
        DUE.is("once not reached is free", desk.hall(), 0);
        desk.answer(2, 2);
        DUE.is("out", desk.hall(), 0b111);
        desk.answer(1, 1);
        DUE.is("another is out", desk.hall(), 0b011);
        desk.answer(0, 1);
        DUE.is("all are out", desk.hall(), 0b001);
    }
}
