import java.util.HashSet;
import java.util.Set;

/** Boundary cases of a DAY that goes by, PAY, VISITS, STRANGERS and the 512 calls: promises 1 and 16 to 18. */
public final class EdgeDayTest {
    private static final Due DUE = new Due();

    public static void main(String[] args) {
        newObject();
        objectsAreApart();
        the512thCall();
        day0To2000();
        dayAbove2000ChangesNothing();
        dayOfNobodySent();
        dayOfEachState();
        dayGapsAreGone();
        dayKeepsTheRest();
        payEachNumberOfHours();
        payAtTheLeastRules();
        payAtTheMostRules();
        paySubjectOfTheirs();
        payTwoDays();
        visitsUpTo400();
        visitsTheLatestStay();
        strangersOn30Days();
        strangersOnDay0();
        strangersEachOnce();
        strangersAllTwelve();
        strangersOfThatClassAlone();
        strangersNotOfToday();
        DUE.end();
    }

    private static MorningDesk withTeachers(int many) {
        MorningDesk desk = new MorningDesk();
        for (int t = 0; t < many; t++) {
            desk.teacher(1, 1, 3000);
        }
        return desk;
    }

    /** Teacher t alone is free to be sent to one gap, and a day goes by. */
    private static void visit(MorningDesk desk, int t, int school, int klass) {
        for (int other = 0; other < desk.count(1); other++) {
            desk.way(other, school, other == t ? 0 : 200);
        }
        desk.gap(school, klass, 0, 0, 1);
        DUE.is("sent", desk.answer(t, 0), true);
        desk.day();
    }

    private static void newObject() {
        MorningDesk desk = new MorningDesk();
        DUE.is("the day", desk.count(0), 0);
        DUE.is("teachers", desk.count(1), 0);
        DUE.is("gaps", desk.count(2), 0);
        DUE.is("sent", desk.count(3), 0);
        DUE.is("out", desk.count(4), 0);
        DUE.is("the tape", desk.count(5), 0);
        DUE.is("visits", desk.count(6), 0);
        DUE.is("no teacher 0", desk.look(0, 0), -1);
        DUE.is("no gap 0", desk.about(0, 0), -1);
        DUE.is("NONE", MorningDesk.NONE, -1);
    }

    private static void objectsAreApart() {
        MorningDesk used = withTeachers(12);
        MorningDesk other = new MorningDesk();
        Due.rules(used, "w1;s1;d1;l1;p1;q1;r1");
        used.feed(1, 2, 3, 4, 5);
        used.way(0, 0, 1);
        used.gap(0, 0, 0, 0, 1);
        used.answer(0, 0);
        used.day();
        used.gap(0, 0, 0, 0, 1);
        String untouched = Picture.of(new MorningDesk());
        DUE.is("another object", Picture.of(other).equals(untouched), true);
        DUE.is("a later object", Picture.of(new MorningDesk()).equals(untouched), true);
    }

    private static void the512thCall() {
        MorningDesk days = new MorningDesk();
        for (int call = 1; call <= 512; call++) {
            DUE.is("day by call " + call, days.day(), call);
        }
        MorningDesk tape = new MorningDesk();
        for (int call = 1; call <= 512; call += 2) {
            DUE.is("feed by call " + call, tape.feed(0x77390000, 0, 0, 0, 0), 20);
            DUE.is("rules by call " + (call + 1), tape.rules(2), 0);
        }
        // 12 calls for the teachers, 2 for the rules, 21 for each of 23 days: 497.
        MorningDesk desk = withTeachers(12);
        Due.rules(desk, "d0");
        for (int day = 1; day <= 23; day++) {
            for (int g = 0; g < 10; g++) {
                DUE.is("gap", desk.gap(5, g, 0, 0, 8), g);
            }
            for (int g = 0; g < 10; g++) {
                DUE.is("yes of " + g, desk.answer(g, 0), true);
            }
            DUE.is("day", desk.day(), day);
        }
        for (int g = 0; g < 10; g++) {
            DUE.is("strangers", desk.strangers(5, g), 1);
        }
        DUE.is("the 508th, a gap", desk.gap(0, 0, 0, 0, 1), 0);
        DUE.is("the 509th, its teacher", desk.who(0), 0);
        DUE.is("the 510th, days", desk.look(9, 6), 23);
        DUE.is("the 511th, visits", desk.count(6), 230);
        DUE.is("the 512th, pay", desk.pay(9), 23 * 8 * 2300);
    }

    private static void day0To2000() {
        // What comes behind the 512th call is free for the document; the bound is held there all the same.
        MorningDesk desk = new MorningDesk();
        DUE.is("at first", desk.count(0), 0);
        for (int day = 1; day <= 2000; day++) {
            DUE.is("a day goes by", desk.day(), day);
            DUE.is("which it is", desk.count(0), day);
        }
        DUE.is("above 2000", desk.day(), -1);
        DUE.is("2000 still", desk.count(0), 2000);
        DUE.is("above 2000 again", desk.day(), -1);
    }

    private static void dayAbove2000ChangesNothing() {
        Edge.leavesAll(DUE, "day above 2000", desk -> {
            for (int t = 0; t < 4; t++) {
                desk.teacher(1, 1, 3000);
            }
            for (int day = 0; day < 2000; day++) {
                if (day > 1990) {
                    desk.gap(day % 6, 3, 0, 0, 2);
                    desk.answer(desk.next(), 0);
                }
                desk.day();
            }
            for (int g = 0; g < 4; g++) {
                desk.gap(g, g, 0, 0, 1 + g);
            }
            desk.answer(0, 0);
            desk.answer(1, 1);
            desk.answer(2, 2);
            desk.feed(0x77313b73, 0x323b6433, 0x3b6c343b, 0x70353b71, 0x363b7237);
        }, MorningDesk::day, -1);
    }

    private static void dayOfNobodySent() {
        MorningDesk desk = new MorningDesk();
        DUE.is("nobody is there", desk.day(), 1);
        desk.teacher(1, 1, 3000);
        desk.gap(0, 0, 0, 0, 1);
        DUE.is("nobody is sent", desk.day(), 2);
        DUE.is("no day worked", desk.look(0, 6), 0);
        DUE.is("no pay", desk.pay(0), 0);
        DUE.is("no visit", desk.count(6), 0);
    }

    private static void dayOfEachState() {
        MorningDesk desk = withTeachers(5);
        for (int g = 0; g < 5; g++) {
            desk.gap(0, g, 0, 0, 1);
        }
        desk.answer(0, 0);
        desk.answer(1, 1);
        desk.answer(2, 2);
        desk.answer(3, 2);
        desk.answer(3, 2);
        int[] state = {1, 2, 0, 2, 0};
        int[] missed = {0, 0, 1, 2, 0};
        for (int t = 0; t < 5; t++) {
            DUE.is("state of " + t, desk.look(t, 3), state[t]);
            DUE.is("missed of " + t, desk.look(t, 5), missed[t]);
        }
        desk.day();
        for (int t = 0; t < 5; t++) {
            DUE.is("free is " + t, desk.look(t, 3), 0);
            DUE.is("nowhere is " + t, desk.look(t, 4), -1);
            DUE.is("not missed is " + t, desk.look(t, 5), 0);
            DUE.is("worked has " + t, desk.look(t, 6), t == 0 ? 1 : 0);
            DUE.is("paid is " + t, desk.pay(t), t == 0 ? 2300 : 0);
            DUE.is("a visit to " + t, desk.strangers(0, t), t == 0 ? 1 : 0);
        }
        DUE.is("nobody is sent", desk.count(3), 0);
        DUE.is("nobody is out", desk.count(4), 0);
    }

    private static void dayGapsAreGone() {
        MorningDesk desk = withTeachers(12);
        for (int g = 0; g < 10; g++) {
            desk.gap(0, 0, 0, 0, 1);
        }
        desk.answer(4, 0);
        desk.day();
        DUE.is("no gap", desk.count(2), 0);
        for (int g = 0; g < 10; g++) {
            DUE.is("about", desk.about(g, 4), -1);
            DUE.is("who", desk.who(g), -1);
            DUE.is("can", desk.can(0, g), -1);
            DUE.is("cost", desk.cost(0, g), -1);
        }
        DUE.is("match", desk.match(), 0);
        DUE.is("hall", desk.hall(), 0);
        DUE.is("next", desk.next(), -1);
    }

    private static void dayKeepsTheRest() {
        MorningDesk desk = withTeachers(2);
        desk.way(1, 5, 77);
        desk.likes(1, 33, 12);
        Due.rules(desk, "w1;s2;d3;l4;p5;q6;r7");
        desk.feed(0x77393b73, 0x393b6439, 0x3b6c393b, 0x70393b71, 0x393b7239);
        desk.day();
        DUE.is("teachers", desk.count(1), 2);
        DUE.is("the way", desk.look(1, 15), 77);
        DUE.is("liked", desk.look(1, 7), 33);
        DUE.is("barred", desk.look(1, 8), 12);
        DUE.is("check", desk.look(1, 2), 3000);
        for (int i = 0; i < 7; i++) {
            DUE.is("rules", desk.count(10 + i), i + 1);
        }
        DUE.is("the tape", desk.count(5), 20);
        DUE.is("its bytes", desk.rules(20), 0);
        for (int i = 0; i < 7; i++) {
            DUE.is("rules of the tape", desk.count(10 + i), 9);
        }
    }

    private static long payFor(String rules, int subject, int hours) {
        MorningDesk desk = withTeachers(1);
        if (!rules.isEmpty()) {
            DUE.is(rules, Due.rules(desk, rules), 0);
        }
        desk.gap(0, 0, subject, 0, hours);
        desk.answer(0, 0);
        DUE.is("not ahead of the day's end", desk.pay(0), 0);
        desk.day();
        return desk.pay(0);
    }

    private static void payEachNumberOfHours() {
        for (int hours = 1; hours <= 8; hours++) {
            DUE.is("theirs, hours " + hours, payFor("", 0, hours), 2300L * hours);
            DUE.is("not theirs, hours " + hours, payFor("", 1, hours), 2000L * hours);
        }
    }

    private static void payAtTheLeastRules() {
        DUE.is("nothing", payFor("p0;q0", 0, 8), 0);
        DUE.is("q alone", payFor("p0;q1", 0, 8), 8);
        DUE.is("q, not theirs", payFor("p0;q9999", 1, 8), 0);
        DUE.is("p alone", payFor("p1;q0", 0, 8), 8);
    }

    private static void payAtTheMostRules() {
        DUE.is("theirs", payFor("p9999;q9999", 0, 8), 8 * 19998);
        DUE.is("not theirs", payFor("p9999;q9999", 7, 8), 8 * 9999);
    }

    private static void paySubjectOfTheirs() {
        for (int subjects = 0; subjects < 256; subjects++) {
            MorningDesk desk = new MorningDesk();
            desk.teacher(subjects, 1, 3000);
            long due = 0;
            for (int subject = 0; subject < 8; subject++) {
                desk.gap(0, 0, subject, 0, 1);
                desk.answer(0, 0);
                desk.day();
                due += (subjects >> subject & 1) == 1 ? 2300 : 2000;
                DUE.is("subject " + subject + " of " + subjects, desk.pay(0), due);
            }
        }
    }

    private static void payTwoDays() {
        MorningDesk desk = withTeachers(2);
        desk.gap(0, 0, 0, 0, 1);
        desk.answer(0, 0);
        desk.day();
        desk.way(0, 0, 200);
        desk.gap(0, 0, 1, 0, 8);
        desk.answer(1, 0);
        // Pay goes by the rules that count when the day goes by.
        Due.rules(desk, "p7");
        desk.day();
        DUE.is("the first's stays", desk.pay(0), 2300);
        DUE.is("the other's", desk.pay(1), 56);
        DUE.is("days of the first", desk.look(0, 6), 1);
        DUE.is("days of the other", desk.look(1, 6), 1);
    }

    /** Many visits a day; behind the 512th call, for 400 visits take more. */
    private static void visits(MorningDesk desk, int many, int school) {
        for (int g = 0; g < many; g++) {
            desk.gap(school, 0, 0, 0, 1);
        }
        for (int g = 0; g < many; g++) {
            desk.answer(desk.next(), 0);
        }
        desk.day();
    }

    private static void visitsUpTo400() {
        MorningDesk desk = withTeachers(12);
        for (int day = 0; day < 39; day++) {
            visits(desk, 10, 0);
        }
        DUE.is("390", desk.count(6), 390);
        visits(desk, 9, 0);
        DUE.is("399", desk.count(6), 399);
        visits(desk, 1, 0);
        DUE.is("400", desk.count(6), 400);
        visits(desk, 1, 0);
        DUE.is("one more: the latest 400", desk.count(6), 400);
        visits(desk, 10, 0);
        DUE.is("ten more: the latest 400", desk.count(6), 400);
        visits(desk, 0, 0);
        DUE.is("none more", desk.count(6), 400);
    }

    private static void visitsTheLatestStay() {
        MorningDesk desk = withTeachers(12);
        int[][] seen = new int[2000][];
        for (int day = 0; day < 130; day++) {
            int school = day / 7 % 6;
            int many = 1 + day % 10;
            for (int g = 0; g < many; g++) {
                desk.gap(school, 0, 0, 0, 1);
            }
            seen[day] = new int[1 + many];
            seen[day][0] = school;
            for (int g = 0; g < many; g++) {
                int t = desk.next();
                desk.answer(t, 0);
                seen[day][1 + g] = t;
            }
            desk.day();
            for (int asked = 0; asked < 6; asked++) {
                DUE.is("school " + asked + " on day " + (day + 1), desk.strangers(asked, 0), due(seen, asked, day));
            }
        }
        DUE.is("kept", desk.count(6), 400);
    }

    private static int due(int[][] seen, int school, int lastDay) {
        Set<Integer> all = new HashSet<>();
        for (int day = Math.max(0, lastDay - 29); day <= lastDay; day++) {
            for (int i = 1; i < seen[day].length && seen[day][0] == school; i++) {
                all.add(seen[day][i]);
            }
        }
        return all.size();
    }

    private static void strangersOn30Days() {
        for (int start : new int[] {0, 1, 17, 100}) {
            MorningDesk desk = withTeachers(1);
            for (int day = 0; day < start; day++) {
                desk.day();
            }
            visit(desk, 0, 2, 9);
            for (int ahead = 1; ahead <= 40; ahead++) {
                DUE.is("a visit " + ahead + " days ahead", desk.strangers(2, 9), ahead <= 30 ? 1 : 0);
                desk.day();
            }
            DUE.is("kept still", desk.count(6), 1);
        }
    }

    private static void strangersOnDay0() {
        MorningDesk desk = withTeachers(1);
        for (int school = 0; school < 6; school++) {
            for (int klass = 0; klass < 16; klass++) {
                DUE.is("nobody yet", desk.strangers(school, klass), 0);
            }
        }
    }

    private static void strangersEachOnce() {
        MorningDesk desk = withTeachers(2);
        for (int day = 1; day <= 30; day++) {
            visit(desk, 0, 5, 15);
            DUE.is("one, day by day", desk.strangers(5, 15), 1);
            DUE.is("visits", desk.count(6), day);
        }
        visit(desk, 1, 5, 15);
        DUE.is("two", desk.strangers(5, 15), 2);
        for (int day = 0; day < 29; day++) {
            DUE.is("the former's later visits count still", desk.strangers(5, 15), 2);
            desk.day();
        }
        // The first's last visit was on day 29, the other's on day 30: it is day 60 now.
        DUE.is("which day", desk.count(0), 60);
        DUE.is("the other alone", desk.strangers(5, 15), 1);
        desk.day();
        DUE.is("neither", desk.strangers(5, 15), 0);
    }

    private static void strangersAllTwelve() {
        MorningDesk desk = withTeachers(12);
        for (int t = 0; t < 12; t++) {
            visit(desk, t, 0, 0);
            DUE.is("so many", desk.strangers(0, 0), t + 1);
        }
        visit(desk, 11, 0, 0);
        DUE.is("twelve", desk.strangers(0, 0), 12);
    }

    private static void strangersOfThatClassAlone() {
        for (int school = 0; school < 6; school++) {
            for (int klass = 0; klass < 16; klass++) {
                MorningDesk desk = withTeachers(1);
                visit(desk, 0, school, klass);
                for (int s = 0; s < 6; s++) {
                    for (int k = 0; k < 16; k++) {
                        DUE.is("class " + k + " of school " + s, desk.strangers(s, k),
                                s == school && k == klass ? 1 : 0);
                    }
                }
            }
        }
    }

    private static void strangersNotOfToday() {
        MorningDesk desk = withTeachers(2);
        desk.gap(0, 0, 0, 0, 1);
        desk.answer(0, 0);
        DUE.is("sent today", desk.strangers(0, 0), 0);
        DUE.is("no visit kept", desk.count(6), 0);
        desk.day();
        DUE.is("sent yesterday", desk.strangers(0, 0), 1);
        DUE.is("a visit kept", desk.count(6), 1);
        desk.gap(0, 0, 0, 0, 1);
        desk.answer(1, 0);
        DUE.is("another sent today", desk.strangers(0, 0), 1);
    }
}
