/** Promises 8 to 13 and 15: can, cost, match, costs, who, next, hall. */
public final class MatchTest {
    private static final Due DUE = new Due();
    private static final int LOW = Integer.MIN_VALUE;
    private static final int HIGH = Integer.MAX_VALUE;

    public static void main(String[] args) {
        promise8Can();
        promise8NoSuchOnes();
        promise9Cost();
        promise10MostGapsFirst();
        promise11LeastCostThen();
        promise12LeastRowThen();
        promise12WhoIsSent();
        promise13Next();
        promise12LongChain();
        promise15Hall();
        promise15HallOfAll();
        DUE.end();
    }

    private static void promise8Can() {
        MorningDesk desk = new MorningDesk();
        desk.teacher(0, 0b0110, 1);
        for (int age = 0; age < 4; age++) {
            desk.gap(2, 0, 0, age, 1);
            DUE.is("age " + age, desk.can(0, age), age == 1 || age == 2 ? 1 : 0);
        }
        desk.way(0, 2, 60);
        DUE.is("sixty minutes", desk.can(0, 1), 1);
        desk.way(0, 2, 61);
        DUE.is("a minute more", desk.can(0, 1), 0);
        Due.rules(desk, "w61");
        DUE.is("as the rules say", desk.can(0, 1), 1);
        desk.likes(0, 0, 0b111011);
        DUE.is("barred from the others", desk.can(0, 1), 1);
        desk.likes(0, 4, 4);
        DUE.is("barred", desk.can(0, 1), 0);
        desk.likes(0, 0, 0);
        desk.answer(0, 1);
        DUE.is("can, though out", desk.can(0, 1), 1);
        desk.day();
        desk.gap(2, 0, 0, 1, 1);
        DUE.is("on the day of the check's end", desk.can(0, 0), 1);
        desk.day();
        desk.gap(2, 0, 0, 1, 1);
        DUE.is("a day behind it", desk.can(0, 0), 0);
    }

    private static void promise8NoSuchOnes() {
        MorningDesk desk = new MorningDesk();
        desk.teacher(1, 1, 1);
        DUE.is("no gap", desk.can(0, 0), -1);
        desk.gap(0, 0, 0, 0, 1);
        for (int wrong : new int[] {LOW, -1, 1, 10, 12, HIGH}) {
            DUE.is("can, teacher " + wrong, desk.can(wrong, 0), -1);
            DUE.is("can, gap " + wrong, desk.can(0, wrong), -1);
            DUE.is("cost, teacher " + wrong, desk.cost(wrong, 0), -1);
            DUE.is("cost, gap " + wrong, desk.cost(0, wrong), -1);
            DUE.is("who, gap " + wrong, desk.who(wrong), -1);
        }
        desk.day();
        DUE.is("yesterday's gap", desk.can(0, 0), -1);
        DUE.is("cost of yesterday's gap", desk.cost(0, 0), -1);
    }

    private static void promise9Cost() {
        MorningDesk desk = new MorningDesk();
        desk.teacher(0b10, 1, 9);
        desk.way(0, 3, 7);
        desk.gap(3, 0, 1, 0, 1);
        desk.gap(3, 0, 2, 0, 1);
        DUE.is("the way", desk.cost(0, 0), 7);
        DUE.is("another subject", desk.cost(0, 1), 67);
        desk.likes(0, 8, 0);
        DUE.is("0 at least", desk.cost(0, 0), 0);
        DUE.is("liked", desk.cost(0, 1), 47);
        Due.rules(desk, "s100;l6;d3");
        DUE.is("liked, by the rules", desk.cost(0, 0), 1);
        DUE.is("another subject, by the rules", desk.cost(0, 1), 101);
        desk.likes(0, 0b110111, 0);
        DUE.is("the others are liked", desk.cost(0, 0), 7);
        for (int day = 1; day <= 2; day++) {
            desk.answer(0, 0);
            DUE.is("a cost, though sent", desk.cost(0, 0), 7 + 3 * (day - 1));
            desk.day();
            desk.gap(3, 0, 1, 0, 1);
            DUE.is("days worked: " + day, desk.cost(0, 0), 7 + 3 * day);
        }
        Due.rules(desk, "w6");
        DUE.is("can't", desk.cost(0, 0), -1);
    }

    /** One who costs little for both gaps, one who can fill gap 0 alone and costs much: both are wanted. */
    private static void promise10MostGapsFirst() {
        MorningDesk desk = new MorningDesk();
        Due.rules(desk, "s999");
        desk.teacher(1, 0b11, 9);
        desk.teacher(0, 0b01, 9);
        desk.gap(0, 0, 0, 0, 1);
        DUE.is("one gap", desk.match(), 1);
        DUE.is("the cheap one", desk.who(0), 0);
        desk.gap(0, 0, 0, 1, 1);
        DUE.is("both", desk.match(), 2);
        DUE.is("dear one for 0", desk.who(0), 1);
        DUE.is("cheap one for 1", desk.who(1), 0);
        DUE.is("in all", desk.costs(), 30 + 1029);
        desk.gap(0, 0, 0, 3, 1);
        DUE.is("a gap for nobody", desk.match(), 2);
        DUE.is("nobody for it", desk.who(2), -1);
        desk.answer(0, 0);
        DUE.is("sent ones do not count", desk.match(), 1);
        DUE.is("nor does their cost", desk.costs(), 1029);
        desk.answer(1, 1);
        DUE.is("nor do those who are out", desk.match(), 0);
        DUE.is("no cost", desk.costs(), 0);
    }

    private static void promise11LeastCostThen() {
        MorningDesk desk = new MorningDesk();
        int[][] ways = {{10, 11, 30}, {10, 20, 60}, {50, 12, 61}};
        for (int t = 0; t < 3; t++) {
            desk.teacher(1, 1, 9);
            for (int school = 0; school < 3; school++) {
                desk.way(t, school, ways[t][school]);
            }
        }
        for (int school = 0; school < 3; school++) {
            desk.gap(school, 0, 0, 0, 1);
        }
        DUE.is("three", desk.match(), 3);
        DUE.is("10 and 12 and 30", desk.costs(), 52);
        DUE.is("gap 0", desk.who(0), 1);
        DUE.is("gap 1", desk.who(1), 2);
        DUE.is("gap 2", desk.who(2), 0);
    }

    private static void promise12LeastRowThen() {
        MorningDesk desk = new MorningDesk();
        desk.teacher(1, 1, 9);
        desk.teacher(1, 1, 9);
        desk.gap(0, 0, 0, 0, 1);
        desk.gap(0, 0, 0, 0, 8);
        desk.gap(0, 0, 0, 0, 8);
        DUE.is("who 0", desk.who(0), 0);
        DUE.is("who 1", desk.who(1), 1);
        DUE.is("who 2", desk.who(2), -1);
        // The row 0 2 1 is not less than 0 1 2 here, though gap 2 would have the lower teacher.
        desk.teacher(1, 1, 9);
        DUE.is("who 1 of three", desk.who(1), 1);
        DUE.is("who 2 of three", desk.who(2), 2);
        // A teacher for gap 0 ahead of a lower one for a later gap: 12 for none is the highest.
        MorningDesk other = new MorningDesk();
        for (int t = 0; t < 12; t++) {
            other.teacher(1, t == 11 ? 3 : 0, 9);
        }
        other.gap(0, 0, 0, 1, 1);
        other.gap(0, 0, 0, 0, 1);
        DUE.is("11 is less than none", other.who(0), 11);
        DUE.is("none for the later", other.who(1), -1);
    }

    private static void promise12WhoIsSent() {
        MorningDesk desk = new MorningDesk();
        desk.teacher(1, 1, 9);
        desk.teacher(1, 1, 9);
        desk.gap(0, 0, 0, 0, 1);
        desk.way(1, 0, 5);
        DUE.is("the cheaper one", desk.who(0), 1);
        desk.answer(1, 0);
        desk.way(0, 0, 1);
        desk.likes(1, 0, 63);
        DUE.is("who is sent stays sent", desk.who(0), 1);
        DUE.is("nothing is left to match", desk.match(), 0);
    }

    private static void promise13Next() {
        MorningDesk desk = new MorningDesk();
        DUE.is("nobody", desk.next(), -1);
        for (int t = 0; t < 4; t++) {
            desk.teacher(1, 1 << t, 9);
        }
        DUE.is("no gap", desk.next(), -1);
        Due.rules(desk, "r5");
        desk.gap(0, 0, 0, 2, 3);
        desk.gap(0, 0, 0, 1, 5);
        desk.gap(0, 0, 0, 0, 5);
        desk.gap(0, 0, 0, 2, 8);
        DUE.is("most hours, the lower gap", desk.next(), 1);
        desk.answer(1, 2);
        DUE.is("not reached less often", desk.next(), 0);
        desk.answer(0, 2);
        DUE.is("then fewer hours", desk.next(), 2);
        desk.answer(2, 2);
        DUE.is("from the first again", desk.next(), 1);
        desk.answer(1, 0);
        DUE.is("who is sent is not called", desk.next(), 0);
        desk.answer(0, 1);
        DUE.is("who is out is not called", desk.next(), 2);
        desk.answer(2, 1);
        DUE.is("nobody is left", desk.next(), -1);
    }

    /** Teacher t reaches the schools t and t + 1 alone: the last gap, at school 0, pushes all the others on. */
    private static void promise12LongChain() {
        MorningDesk chain = new MorningDesk();
        for (int t = 0; t < 6; t++) {
            chain.teacher(1, 1, 9);
            for (int school = 0; school < 6; school++) {
                chain.way(t, school, school == t ? 10 : school == t + 1 ? 1 : 61);
            }
        }
        for (int school = 1; school < 6; school++) {
            chain.gap(school, 0, 0, 0, 1);
        }
        for (int g = 0; g < 5; g++) {
            DUE.is("the near one", chain.who(g), g);
        }
        DUE.is("five at 1", chain.costs(), 5);
        chain.gap(0, 0, 0, 0, 1);
        DUE.is("six", chain.match(), 6);
        for (int g = 0; g < 5; g++) {
            DUE.is("pushed on", chain.who(g), g + 1);
        }
        DUE.is("the first school", chain.who(5), 0);
        DUE.is("six at 10", chain.costs(), 60);
    }

    private static void promise15HallOfAll() {
        MorningDesk desk = new MorningDesk();
        for (int t = 0; t < 9; t++) {
            desk.teacher(1, 1, 9);
        }
        for (int g = 0; g < 10; g++) {
            DUE.is("nine are enough", desk.hall(), 0);
            desk.gap(0, 0, 0, 0, 1);
        }
        DUE.is("ten gaps for nine", desk.hall(), 1023);
        DUE.is("nine are filled", desk.match(), 9);
        DUE.is("the last is not", desk.who(9), -1);
    }

    private static void promise15Hall() {
        MorningDesk desk = new MorningDesk();
        DUE.is("no gaps", desk.hall(), 0);
        desk.teacher(1, 0b0001, 9);
        desk.teacher(1, 0b0001, 9);
        desk.teacher(1, 0b0010, 9);
        desk.gap(0, 0, 0, 0, 1);
        desk.gap(0, 0, 0, 1, 1);
        desk.gap(0, 0, 0, 0, 1);
        DUE.is("none is left", desk.hall(), 0);
        desk.gap(0, 0, 0, 0, 1);
        DUE.is("three for two", desk.hall(), 0b1101);
        desk.gap(0, 0, 0, 0, 1);
        DUE.is("the least three", desk.hall(), 0b1101);
        desk.gap(0, 0, 0, 1, 1);
        DUE.is("two for one, though of higher bits", desk.hall(), 0b100010);
        desk.gap(0, 0, 0, 2, 1);
        DUE.is("one for none", desk.hall(), 0b1000000);
        desk.teacher(1, 0b0100, 9);
        DUE.is("one for the one", desk.hall(), 0b100010);
        desk.answer(2, 0);
        DUE.is("nobody is left for the other", desk.hall(), 0b100000);
        MorningDesk other = new MorningDesk();
        other.teacher(1, 1, 9);
        other.gap(0, 0, 0, 0, 1);
        other.answer(0, 0);
        DUE.is("a gap with somebody sent is not in it", other.hall(), 0);
        other.gap(0, 0, 0, 0, 1);
        DUE.is("the new one is", other.hall(), 0b10);
    }
}
