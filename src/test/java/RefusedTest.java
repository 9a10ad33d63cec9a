/**
 * "A call that is refused (NONE, false) changes nothing but the tape, where it is told": each refused call's answer,
 * and that the desk looks like one that was not asked; and that asking alone changes nothing either.
 */
public final class RefusedTest {
    private static final Due DUE = new Due();
    private static final String TWENTY = "w9;s2;d3;l4;p5;q6;r7";
    private static final String SIXTY = "w0091;s0022;d0033;l0044;p0055;q0066;r0007;w0092;s0023;w9;d34";
    private static final int[] WRONG = {Integer.MIN_VALUE, -256, -1, 5000, 1 << 16, Integer.MAX_VALUE};

    public static void main(String[] args) {
        scenesAreWithinTheCalls();
        feedAboveSixty();
        rulesOfMoreOrLess();
        teacherAThirteenth();
        teacherOfWrongNumbers();
        wayOfWrongNumbers();
        likesOfWrongNumbers();
        gapAnEleventh();
        gapOfWrongNumbers();
        canOfNobody();
        costOfNobodyOrOneWhoCannot();
        whoOfNone();
        nextOfNobody();
        answerOfWrongNumbers();
        answerOfSentAndOutAndOthers();
        payOfNobody();
        strangersOfNone();
        lookAtNone();
        aboutNone();
        countNone();
        askingChangesNothing();
        DUE.end();
    }

    /** Twelve teachers and ten gaps, day 2; some are sent, out, not reached once, not in the match; sixty bytes. */
    private static void busy(MorningDesk desk) {
        for (int t = 0; t < 12; t++) {
            desk.teacher(37 * t % 256, t == 10 ? 8 : 7, t == 11 ? 0 : 100 + t);
        }
        desk.gap(1, 3, 0, 0, 4);
        desk.gap(5, 15, 1, 1, 8);
        desk.answer(desk.next(), 0);
        desk.answer(desk.next(), 0);
        desk.day();
        desk.day();
        for (int t = 0; t < 6; t++) {
            desk.way(t, t, 11 * t);
            desk.likes(t, 1 << t, 32 >> t & 7);
        }
        for (int g = 0; g < 10; g++) {
            desk.gap(g % 3, g, g % 8, g < 7 ? g % 3 : 0, 1 + g % 8);
        }
        desk.answer(desk.next(), 0);
        desk.answer(desk.next(), 1);
        desk.answer(desk.next(), 2);
        desk.answer(desk.next(), 0);
        Due.feed(desk, SIXTY);
    }

    /** Three teachers, of whom 0 is sent, 1 is out, 2 can fill nothing that is left; three gaps; twenty bytes. */
    private static void small(MorningDesk desk) {
        desk.teacher(3, 1, 9);
        desk.teacher(3, 3, 9);
        desk.teacher(3, 4, 9);
        desk.gap(2, 2, 2, 0, 2);
        desk.gap(2, 3, 2, 0, 2);
        desk.gap(3, 3, 3, 1, 3);
        desk.answer(0, 0);
        desk.answer(1, 1);
        Due.feed(desk, TWENTY);
    }

    private static void refused(String what, Edge.Scene scene, Edge.Call call) {
        Edge.leavesAll(DUE, what, scene, call, -1);
    }

    private static void isFalse(String what, Edge.Scene scene, Edge.Call call) {
        Edge.leavesAll(DUE, what, scene, call, 0);
    }

    private static long asLong(boolean answer) {
        return answer ? 1 : 0;
    }

    /** The scenes hold what the tests below build on. */
    private static void scenesAreWithinTheCalls() {
        MorningDesk desk = new MorningDesk();
        busy(desk);
        int[] counts = {2, 12, 10, 2, 1, 60, 2};
        for (int what = 0; what < counts.length; what++) {
            DUE.is("busy, count " + what, desk.count(what), counts[what]);
        }
        DUE.is("busy, some are in the match", desk.match() > 0, true);
        DUE.is("busy, the match leaves gaps", desk.hall() > 0, true);
        DUE.is("busy, its tape is rules", desk.rules(60), 0);
        MorningDesk other = new MorningDesk();
        small(other);
        DUE.is("small, nobody is in the match", other.match(), 0);
        DUE.is("small, sent", other.look(0, 3), 1);
        DUE.is("small, out", other.look(1, 3), 2);
        DUE.is("small, free", other.look(2, 3), 0);
        DUE.is("small, its tape is rules", other.rules(20), 0);
    }

    private static void feedAboveSixty() {
        refused("feed", RefusedTest::busy, desk -> desk.feed(0, 0, 0, 0, 0));
        refused("feed", RefusedTest::busy, desk -> desk.feed(0x77313b77, -1, 0x3b77343b, 1, 0x3636363b));
    }

    private static void rulesOfMoreOrLess() {
        for (int n : new int[] {Integer.MIN_VALUE, -60, -1, 61, 100, Integer.MAX_VALUE}) {
            refused("rules " + n + " of 60", RefusedTest::busy, desk -> desk.rules(n));
        }
        for (int n : new int[] {Integer.MIN_VALUE, -20, -1, 21, 60, Integer.MAX_VALUE}) {
            refused("rules " + n + " of 20", RefusedTest::small, desk -> desk.rules(n));
        }
        for (int n : new int[] {-1, 1, 20}) {
            refused("rules " + n + " of none", desk -> desk.teacher(1, 1, 1), desk -> desk.rules(n));
        }
    }

    private static void teacherAThirteenth() {
        refused("a thirteenth", RefusedTest::busy, desk -> desk.teacher(0, 0, 0));
        refused("a thirteenth", RefusedTest::busy, desk -> desk.teacher(255, 15, 3000));
    }

    private static void teacherOfWrongNumbers() {
        int[][] rows = {{-1, 15, 9}, {256, 15, 9}, {255, -1, 9}, {255, 16, 9}, {255, 15, -1}, {255, 15, 3001}};
        for (int[] row : rows) {
            refused("teacher " + row[0] + " " + row[1] + " " + row[2], RefusedTest::small,
                    desk -> desk.teacher(row[0], row[1], row[2]));
        }
        for (int wrong : WRONG) {
            refused("subjects " + wrong, RefusedTest::small, desk -> desk.teacher(wrong, 15, 9));
            refused("ages " + wrong, RefusedTest::small, desk -> desk.teacher(255, wrong, 9));
            refused("check " + wrong, RefusedTest::small, desk -> desk.teacher(255, 15, wrong));
        }
    }

    private static void wayOfWrongNumbers() {
        int[][] rows = {{-1, 0, 0}, {12, 0, 0}, {0, -1, 0}, {0, 6, 0}, {0, 0, -1}, {0, 0, 201}, {11, 5, 201}};
        for (int[] row : rows) {
            isFalse("way " + row[0] + " " + row[1] + " " + row[2], RefusedTest::busy,
                    desk -> asLong(desk.way(row[0], row[1], row[2])));
        }
        isFalse("way of a teacher who is not there yet", RefusedTest::small, desk -> asLong(desk.way(3, 0, 0)));
        for (int wrong : WRONG) {
            isFalse("way of " + wrong, RefusedTest::busy, desk -> asLong(desk.way(wrong, 5, 200)));
            isFalse("way to " + wrong, RefusedTest::busy, desk -> asLong(desk.way(11, wrong, 200)));
            isFalse("way, minutes " + wrong, RefusedTest::busy, desk -> asLong(desk.way(11, 5, wrong)));
        }
    }

    private static void likesOfWrongNumbers() {
        int[][] rows = {{-1, 0, 0}, {12, 0, 0}, {0, -1, 0}, {0, 64, 0}, {0, 0, -1}, {0, 0, 64}, {11, 63, 64},
            {11, 64, 63}};
        for (int[] row : rows) {
            isFalse("likes " + row[0] + " " + row[1] + " " + row[2], RefusedTest::busy,
                    desk -> asLong(desk.likes(row[0], row[1], row[2])));
        }
        isFalse("likes of a teacher who is not there yet", RefusedTest::small, desk -> asLong(desk.likes(3, 0, 0)));
        for (int wrong : WRONG) {
            isFalse("likes of " + wrong, RefusedTest::busy, desk -> asLong(desk.likes(wrong, 63, 63)));
            isFalse("liked " + wrong, RefusedTest::busy, desk -> asLong(desk.likes(11, wrong, 63)));
            isFalse("barred " + wrong, RefusedTest::busy, desk -> asLong(desk.likes(11, 63, wrong)));
        }
    }

    private static void gapAnEleventh() {
        refused("an eleventh", RefusedTest::busy, desk -> desk.gap(0, 0, 0, 0, 1));
        refused("an eleventh", RefusedTest::busy, desk -> desk.gap(5, 15, 7, 3, 8));
    }

    private static void gapOfWrongNumbers() {
        int[] least = {0, 0, 0, 0, 1};
        int[] most = {5, 15, 7, 3, 8};
        for (int place = 0; place < 5; place++) {
            for (int wrong : new int[] {least[place] - 1, most[place] + 1, Integer.MIN_VALUE, 5000,
                Integer.MAX_VALUE}) {
                int[] row = most.clone();
                row[place] = wrong;
                refused("gap, number " + place + " is " + wrong, RefusedTest::small,
                        desk -> desk.gap(row[0], row[1], row[2], row[3], row[4]));
            }
        }
    }

    private static void canOfNobody() {
        int[][] rows = {{-1, 0}, {12, 0}, {0, -1}, {0, 10}, {12, 10}, {-1, -1}};
        for (int[] row : rows) {
            refused("can " + row[0] + " " + row[1], RefusedTest::busy, desk -> desk.can(row[0], row[1]));
        }
        refused("can of one who is not there yet", RefusedTest::small, desk -> desk.can(3, 0));
        refused("can at a gap that is not there yet", RefusedTest::small, desk -> desk.can(0, 3));
    }

    private static void costOfNobodyOrOneWhoCannot() {
        int[][] rows = {{-1, 0}, {12, 0}, {0, -1}, {0, 10}, {12, 10}, {11, 0}};
        for (int[] row : rows) {
            refused("cost " + row[0] + " " + row[1], RefusedTest::busy, desk -> desk.cost(row[0], row[1]));
        }
        refused("cost of one who can't", RefusedTest::small, desk -> desk.cost(2, 0));
        refused("cost at a gap that is not there yet", RefusedTest::small, desk -> desk.cost(0, 3));
    }

    private static void whoOfNone() {
        for (int g : new int[] {Integer.MIN_VALUE, -1, 10, Integer.MAX_VALUE}) {
            refused("who of gap " + g, RefusedTest::busy, desk -> desk.who(g));
        }
        refused("who of a gap that is not there yet", RefusedTest::small, desk -> desk.who(3));
        refused("who of a gap that nobody is for", RefusedTest::small, desk -> desk.who(1));
    }

    private static void nextOfNobody() {
        refused("next of nobody", RefusedTest::small, MorningDesk::next);
        refused("next of nothing", desk -> desk.day(), MorningDesk::next);
    }

    private static void answerOfWrongNumbers() {
        for (int wrong : new int[] {Integer.MIN_VALUE, -1, 12, Integer.MAX_VALUE}) {
            for (int how = 0; how < 3; how++) {
                int said = how;
                isFalse("answer " + how + " of " + wrong, RefusedTest::busy,
                        desk -> asLong(desk.answer(wrong, said)));
            }
        }
        for (int how : new int[] {Integer.MIN_VALUE, -1, 3, 4, Integer.MAX_VALUE}) {
            for (int t = 0; t < 12; t++) {
                int one = t;
                isFalse("answer " + how + " of " + t, RefusedTest::busy, desk -> asLong(desk.answer(one, how)));
            }
        }
    }

    private static void answerOfSentAndOutAndOthers() {
        String[] names = {"one who is sent", "one who is out", "one who is not in the match", "nobody"};
        for (int t = 0; t < 4; t++) {
            for (int how = 0; how < 3; how++) {
                int one = t;
                int said = how;
                isFalse("answer " + how + " of " + names[t], RefusedTest::small,
                        desk -> asLong(desk.answer(one, said)));
            }
        }
        for (int how = 0; how < 3; how++) {
            int said = how;
            isFalse("answer " + how + " of one who can fill none", RefusedTest::busy,
                    desk -> asLong(desk.answer(10, said)));
            isFalse("answer " + how + " of one whose check has ended", RefusedTest::busy,
                    desk -> asLong(desk.answer(11, said)));
        }
    }

    private static void payOfNobody() {
        for (int t : new int[] {Integer.MIN_VALUE, -1, 12, Integer.MAX_VALUE}) {
            Edge.leavesAll(DUE, "pay of " + t, RefusedTest::busy, desk -> desk.pay(t), 0);
        }
        Edge.leavesAll(DUE, "pay of one who is not there yet", RefusedTest::small, desk -> desk.pay(3), 0);
    }

    private static void strangersOfNone() {
        int[][] rows = {{-1, 0}, {6, 0}, {0, -1}, {0, 16}, {6, 16}, {Integer.MIN_VALUE, 0}, {0, Integer.MAX_VALUE}};
        for (int[] row : rows) {
            refused("strangers " + row[0] + " " + row[1], RefusedTest::busy,
                    desk -> desk.strangers(row[0], row[1]));
        }
    }

    private static void lookAtNone() {
        int[][] rows = {{-1, 0}, {12, 0}, {0, -1}, {0, 9}, {0, 16}, {12, 10}, {-1, 10}, {0, Integer.MIN_VALUE},
            {0, Integer.MAX_VALUE}, {Integer.MIN_VALUE, 3}, {Integer.MAX_VALUE, 3}};
        for (int[] row : rows) {
            refused("look " + row[0] + " " + row[1], RefusedTest::busy, desk -> desk.look(row[0], row[1]));
        }
        refused("look at one who is not there yet", RefusedTest::small, desk -> desk.look(3, 0));
        refused("where one who is out is sent", RefusedTest::small, desk -> desk.look(1, 4));
    }

    private static void aboutNone() {
        int[][] rows = {{-1, 0}, {10, 0}, {0, -1}, {0, 5}, {10, 5}, {0, Integer.MIN_VALUE}, {0, Integer.MAX_VALUE},
            {Integer.MIN_VALUE, 0}, {Integer.MAX_VALUE, 0}};
        for (int[] row : rows) {
            refused("about " + row[0] + " " + row[1], RefusedTest::busy, desk -> desk.about(row[0], row[1]));
        }
        refused("about a gap that is not there yet", RefusedTest::small, desk -> desk.about(3, 0));
    }

    private static void countNone() {
        for (int what : new int[] {Integer.MIN_VALUE, -1, 7, 8, 9, 17, 18, Integer.MAX_VALUE}) {
            refused("count " + what, RefusedTest::busy, desk -> desk.count(what));
        }
    }

    private static void askingChangesNothing() {
        Edge.leavesAll(DUE, "asking", RefusedTest::busy, desk -> {
            long sum = desk.match() + desk.costs() + desk.next() + desk.hall() + desk.pay(0);
            sum += desk.can(2, 2) + desk.cost(2, 2) + desk.who(2) + desk.strangers(1, 3);
            sum += desk.look(2, 10) + desk.about(2, 0) + desk.count(0);
            return sum == 0 ? 1 : 0;
        }, 0);
    }
}
