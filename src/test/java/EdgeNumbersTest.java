/**
 * The least and the most of each number that a call takes: promises 4 to 9, 12, 14 and 17 to 21, and the Terms'
 * TEACHERS, GAPS, SUBJECTS, AGES, MINUTES, SCHOOLS, CHECK, CLASSES and HOURS.
 */
public final class EdgeNumbersTest {
    private static final Due DUE = new Due();

    public static void main(String[] args) {
        teacherSubjects0To255();
        teacherAges0To15();
        teacherCheck0To3000();
        teachers0To11();
        teacherAtFirst();
        wayTeacher();
        waySchool0To5();
        wayMinutes0To200();
        likesTeacher();
        likesLiked0To63();
        likesBarred0To63();
        gapSchool0To5();
        gapClass0To15();
        gapSubject0To7();
        gapAge0To3();
        gapHours1To8();
        gaps0To9();
        gapsAreOfThisDay();
        canAndCost();
        whoGap();
        answerTeacher();
        answerHow0To2();
        payTeacher();
        strangersSchool0To5();
        strangersClass0To15();
        lookTeacher();
        lookWhat();
        aboutGap();
        aboutWhat();
        countWhat();
        twoWrongNumbers();
        DUE.end();
    }

    private static MorningDesk withTeachers(int many) {
        MorningDesk desk = new MorningDesk();
        for (int t = 0; t < many; t++) {
            desk.teacher(255, 15, 3000);
        }
        return desk;
    }

    private static MorningDesk withBoth(int teachers, int gaps) {
        MorningDesk desk = withTeachers(teachers);
        for (int g = 0; g < gaps; g++) {
            desk.gap(0, 0, 0, 0, 1);
        }
        return desk;
    }

    /** A teacher is taken and is as told, or NONE is the answer and there is none. */
    private static boolean takesTeacher(int subjects, int ages, int check) {
        MorningDesk desk = new MorningDesk();
        int t = desk.teacher(subjects, ages, check);
        boolean taken = t == 0;
        DUE.is("its number or NONE", t, taken ? 0 : -1);
        DUE.is("how many", desk.count(1), taken ? 1 : 0);
        DUE.is("subjects", desk.look(0, 0), taken ? subjects : -1);
        DUE.is("ages", desk.look(0, 1), taken ? ages : -1);
        DUE.is("check", desk.look(0, 2), taken ? check : -1);
        return taken;
    }

    private static void teacherSubjects0To255() {
        Edge.range(DUE, "subjects", 0, 255, value -> takesTeacher(value, 1, 1));
    }

    private static void teacherAges0To15() {
        Edge.range(DUE, "ages", 0, 15, value -> takesTeacher(1, value, 1));
    }

    private static void teacherCheck0To3000() {
        Edge.range(DUE, "check", 0, 3000, value -> takesTeacher(1, 1, value));
    }

    private static void teachers0To11() {
        MorningDesk desk = new MorningDesk();
        for (int t = 0; t < 12; t++) {
            DUE.is("teacher", desk.teacher(t, 1, t), t);
            DUE.is("teachers", desk.count(1), t + 1);
        }
        DUE.is("a thirteenth", desk.teacher(200, 2, 2), -1);
        DUE.is("twelve still", desk.count(1), 12);
        for (int t = 0; t < 12; t++) {
            DUE.is("none is another", desk.look(t, 0), t);
        }
        DUE.is("no teacher 12", desk.look(12, 0), -1);
        desk.day();
        DUE.is("a thirteenth on the next day", desk.teacher(1, 1, 1), -1);
    }

    private static void teacherAtFirst() {
        MorningDesk desk = new MorningDesk();
        desk.teacher(255, 15, 3000);
        DUE.is("free", desk.look(0, 3), 0);
        DUE.is("sent nowhere", desk.look(0, 4), -1);
        DUE.is("never not reached", desk.look(0, 5), 0);
        DUE.is("no day worked", desk.look(0, 6), 0);
        DUE.is("likes none", desk.look(0, 7), 0);
        DUE.is("barred from none", desk.look(0, 8), 0);
        for (int school = 0; school < 6; school++) {
            DUE.is("the way to school " + school, desk.look(0, 10 + school), 30);
        }
        DUE.is("no pay", desk.pay(0), 0);
    }

    private static void wayTeacher() {
        for (int many : new int[] {0, 1, 2, 11, 12}) {
            Edge.range(DUE, "way, of " + many + " teacher", 0, many - 1, t -> {
                MorningDesk desk = withTeachers(many);
                boolean taken = desk.way(t, 3, 44);
                for (int other = 0; other < many; other++) {
                    DUE.is("way of " + other, desk.look(other, 13), other == t ? 44 : 30);
                }
                return taken;
            });
        }
    }

    private static void waySchool0To5() {
        Edge.range(DUE, "way, school", 0, 5, school -> {
            MorningDesk desk = withTeachers(1);
            boolean taken = desk.way(0, school, 44);
            for (int other = 0; other < 6; other++) {
                DUE.is("way to " + other, desk.look(0, 10 + other), other == school ? 44 : 30);
            }
            return taken;
        });
    }

    private static void wayMinutes0To200() {
        for (int school = 0; school <= 5; school++) {
            int there = school;
            Edge.range(DUE, "minutes", 0, 200, minutes -> {
                MorningDesk desk = withTeachers(1);
                boolean taken = desk.way(0, there, minutes);
                DUE.is("minutes to " + there, desk.look(0, 10 + there), taken ? minutes : 30);
                return taken;
            });
        }
    }

    private static void likesTeacher() {
        for (int many : new int[] {0, 1, 2, 11, 12}) {
            Edge.range(DUE, "likes, of " + many + " teacher", 0, many - 1, t -> {
                MorningDesk desk = withTeachers(many);
                boolean taken = desk.likes(t, 5, 6);
                for (int other = 0; other < many; other++) {
                    DUE.is("liked by " + other, desk.look(other, 7), other == t ? 5 : 0);
                    DUE.is("barred are " + other, desk.look(other, 8), other == t ? 6 : 0);
                }
                return taken;
            });
        }
    }

    private static boolean takesLikes(int liked, int barred) {
        MorningDesk desk = withTeachers(1);
        desk.likes(0, 21, 42);
        boolean taken = desk.likes(0, liked, barred);
        DUE.is("liked", desk.look(0, 7), taken ? liked : 21);
        DUE.is("barred", desk.look(0, 8), taken ? barred : 42);
        return taken;
    }

    private static void likesLiked0To63() {
        Edge.range(DUE, "liked", 0, 63, value -> takesLikes(value, 0));
        Edge.range(DUE, "liked, all barred", 0, 63, value -> takesLikes(value, 63));
    }

    private static void likesBarred0To63() {
        Edge.range(DUE, "barred", 0, 63, value -> takesLikes(0, value));
        Edge.range(DUE, "barred, all liked", 0, 63, value -> takesLikes(63, value));
    }

    /** A gap whose number at a place is the value is taken and is as told, or NONE is the answer and there is none. */
    private static boolean takesGap(int place, int value, int... others) {
        int[] row = others.clone();
        row[place] = value;
        MorningDesk desk = new MorningDesk();
        int g = desk.gap(row[0], row[1], row[2], row[3], row[4]);
        boolean taken = g == 0;
        DUE.is("its number or NONE", g, taken ? 0 : -1);
        DUE.is("how many", desk.count(2), taken ? 1 : 0);
        for (int what = 0; what < 5; what++) {
            DUE.is("about " + what, desk.about(0, what), taken ? row[what] : -1);
        }
        return taken;
    }

    private static void gapNumber(String what, int place, int least, int most) {
        Edge.range(DUE, what + ", the others least", least, most, value -> takesGap(place, value, 0, 0, 0, 0, 1));
        Edge.range(DUE, what + ", the others most", least, most, value -> takesGap(place, value, 5, 15, 7, 3, 8));
    }

    private static void gapSchool0To5() {
        gapNumber("gap, school", 0, 0, 5);
    }

    private static void gapClass0To15() {
        gapNumber("gap, class", 1, 0, 15);
    }

    private static void gapSubject0To7() {
        gapNumber("gap, subject", 2, 0, 7);
    }

    private static void gapAge0To3() {
        gapNumber("gap, age", 3, 0, 3);
    }

    private static void gapHours1To8() {
        gapNumber("gap, hours", 4, 1, 8);
    }

    private static void gaps0To9() {
        MorningDesk desk = new MorningDesk();
        for (int g = 0; g < 10; g++) {
            DUE.is("gap", desk.gap(0, g, 0, 0, 1), g);
            DUE.is("gaps", desk.count(2), g + 1);
        }
        DUE.is("an eleventh", desk.gap(0, 15, 0, 0, 1), -1);
        DUE.is("ten still", desk.count(2), 10);
        for (int g = 0; g < 10; g++) {
            DUE.is("none is another", desk.about(g, 1), g);
        }
        DUE.is("no gap 10", desk.about(10, 1), -1);
    }

    private static void gapsAreOfThisDay() {
        MorningDesk desk = withBoth(0, 10);
        desk.day();
        DUE.is("gone", desk.count(2), 0);
        DUE.is("from 0 again", desk.gap(5, 15, 7, 3, 8), 0);
        DUE.is("one", desk.count(2), 1);
        DUE.is("the new one", desk.about(0, 0), 5);
        DUE.is("the former second is gone", desk.about(1, 0), -1);
        for (int g = 1; g < 10; g++) {
            DUE.is("gap again", desk.gap(0, 0, 0, 0, 1), g);
        }
        DUE.is("an eleventh again", desk.gap(0, 0, 0, 0, 1), -1);
    }

    private static void canAndCost() {
        for (int many : new int[] {0, 1, 10}) {
            MorningDesk desk = withBoth(12, many);
            Edge.range(DUE, "can, of " + many + " gap", 0, many - 1, g -> noneOr(desk.can(11, g), 1));
            MorningDesk other = withBoth(12, many);
            Edge.range(DUE, "cost, of " + many + " gap", 0, many - 1, g -> noneOr(other.cost(11, g), 30));
        }
        for (int many : new int[] {0, 1, 12}) {
            MorningDesk desk = withBoth(many, 10);
            Edge.range(DUE, "can, of " + many + " teacher", 0, many - 1, t -> noneOr(desk.can(t, 9), 1));
            MorningDesk other = withBoth(many, 10);
            Edge.range(DUE, "cost, of " + many + " teacher", 0, many - 1, t -> noneOr(other.cost(t, 9), 30));
        }
    }

    private static boolean noneOr(long got, long due) {
        DUE.is("NONE or " + due, got == -1 || got == due, true);
        return got == due;
    }

    private static void whoGap() {
        for (int many : new int[] {0, 1, 10}) {
            MorningDesk desk = withBoth(12, many);
            Edge.range(DUE, "who, of " + many + " gap", 0, many - 1, g -> noneOr(desk.who(g), g == -1 ? -2 : g));
        }
    }

    private static void answerTeacher() {
        for (int many : new int[] {0, 1, 10}) {
            for (int how = 0; how < 3; how++) {
                int said = how;
                Edge.range(DUE, "answer " + how + " of " + many + " teacher", 0, many - 1, t -> {
                    MorningDesk desk = withBoth(many, 10);
                    boolean taken = desk.answer(t, said);
                    DUE.is("sent", desk.count(3), taken && said == 0 ? 1 : 0);
                    DUE.is("out", desk.count(4), taken && said == 1 ? 1 : 0);
                    DUE.is("not reached", desk.look(t, 5), t < 0 || t >= many ? -1 : said == 2 ? 1 : 0);
                    return taken;
                });
            }
        }
    }

    private static void answerHow0To2() {
        Edge.range(DUE, "how", 0, 2, how -> {
            MorningDesk desk = withBoth(1, 1);
            boolean taken = desk.answer(0, how);
            DUE.is("state behind how " + how, desk.look(0, 3), how == 0 ? 1 : how == 1 ? 2 : 0);
            DUE.is("where behind how " + how, desk.look(0, 4), how == 0 ? 0 : -1);
            DUE.is("not reached behind how " + how, desk.look(0, 5), how == 2 ? 1 : 0);
            return taken;
        });
    }

    private static void payTeacher() {
        for (int many : new int[] {0, 1, 10}) {
            MorningDesk desk = withBoth(many, 10);
            for (int t = 0; t < many; t++) {
                desk.answer(t, 0);
            }
            desk.day();
            Edge.range(DUE, "pay, of " + many + " teacher", 0, many - 1, t -> {
                long paid = desk.pay(t);
                DUE.is("pay or 0", paid == 0 || paid == 2300, true);
                return paid == 2300;
            });
        }
        MorningDesk all = withTeachers(12);
        DUE.is("the last, unpaid", all.pay(11), 0);
        DUE.is("no teacher 12", all.pay(12), 0);
    }

    private static void strangersSchool0To5() {
        MorningDesk desk = new MorningDesk();
        Edge.range(DUE, "strangers, school", 0, 5, school -> noneOr(desk.strangers(school, 15), 0));
    }

    private static void strangersClass0To15() {
        MorningDesk desk = new MorningDesk();
        Edge.range(DUE, "strangers, class", 0, 15, klass -> noneOr(desk.strangers(5, klass), 0));
    }

    private static void lookTeacher() {
        for (int many : new int[] {0, 1, 12}) {
            for (int what : new int[] {0, 1, 2, 10, 15}) {
                MorningDesk desk = withTeachers(many);
                int due = what == 0 ? 255 : what == 1 ? 15 : what == 2 ? 3000 : 30;
                Edge.range(DUE, "look, of " + many + " teacher", 0, many - 1, t -> noneOr(desk.look(t, what), due));
            }
        }
    }

    private static void lookWhat() {
        // One who is sent, so that none of what is there is NONE.
        MorningDesk desk = withBoth(1, 1);
        desk.answer(0, 0);
        for (int what = -70; what <= 90; what++) {
            boolean there = what >= 0 && what <= 8 || what >= 10 && what <= 15;
            DUE.is("look at " + what + " is there", desk.look(0, what) != -1, there);
        }
        for (int bit = 7; bit < 32; bit++) {
            DUE.is("look at bit " + bit, desk.look(0, 1 << bit), -1);
            DUE.is("look at bit and ten " + bit, desk.look(0, (1 << bit) + 10), -1);
        }
        DUE.is("look at the highest", desk.look(0, Edge.HIGH), -1);
        DUE.is("look at the lowest", desk.look(0, Edge.LOW), -1);
    }

    private static void aboutGap() {
        for (int many : new int[] {0, 1, 10}) {
            for (int what = 0; what < 5; what++) {
                int asked = what;
                MorningDesk desk = withBoth(0, many);
                Edge.range(DUE, "about, of " + many + " gap", 0, many - 1,
                        g -> noneOr(desk.about(g, asked), asked == 4 ? 1 : 0));
            }
        }
    }

    private static void aboutWhat() {
        MorningDesk desk = new MorningDesk();
        desk.gap(3, 3, 3, 3, 3);
        Edge.range(DUE, "about what", 0, 4, what -> noneOr(desk.about(0, what), 3));
    }

    private static void countWhat() {
        MorningDesk desk = new MorningDesk();
        for (int what = -70; what <= 90; what++) {
            boolean there = what >= 0 && what <= 6 || what >= 10 && what <= 16;
            DUE.is("count " + what + " is there", desk.count(what) != -1, there);
        }
        for (int bit = 7; bit < 32; bit++) {
            DUE.is("count bit " + bit, desk.count(1 << bit), -1);
            DUE.is("count bit and ten " + bit, desk.count((1 << bit) + 10), -1);
        }
        DUE.is("count the highest", desk.count(Edge.HIGH), -1);
        DUE.is("count the lowest", desk.count(Edge.LOW), -1);
    }

    private static void twoWrongNumbers() {
        int[] wrong = {Edge.LOW, -1, 3001, Edge.HIGH};
        for (int one : wrong) {
            for (int other : wrong) {
                MorningDesk desk = withBoth(1, 1);
                DUE.is("teacher", desk.teacher(one, other, 0), -1);
                DUE.is("teacher", desk.teacher(one, 0, other), -1);
                DUE.is("teacher", desk.teacher(0, one, other), -1);
                DUE.is("way", desk.way(one, other, 0), false);
                DUE.is("way", desk.way(one, 0, other), false);
                DUE.is("way", desk.way(0, one, other), false);
                DUE.is("likes", desk.likes(0, one, other), false);
                DUE.is("likes", desk.likes(one, other, other), false);
                DUE.is("gap", desk.gap(one, other, one, other, one), -1);
                DUE.is("can", desk.can(one, other), -1);
                DUE.is("cost", desk.cost(one, other), -1);
                DUE.is("answer", desk.answer(one, other), false);
                DUE.is("strangers", desk.strangers(one, other), -1);
                DUE.is("look", desk.look(one, other), -1);
                DUE.is("about", desk.about(one, other), -1);
                DUE.is("one teacher still", desk.count(1), 1);
                DUE.is("one gap still", desk.count(2), 1);
            }
        }
    }
}
