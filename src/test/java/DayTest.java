/** Promises 14 and 16 to 18: answer, day, pay, strangers. */
public final class DayTest {
    private static final Due DUE = new Due();
    private static final int LOW = Integer.MIN_VALUE;
    private static final int HIGH = Integer.MAX_VALUE;

    public static void main(String[] args) {
        promise14Answer();
        promise14NotReached();
        promise14FewerTriesThanMisses();
        promise14Refused();
        promise16Day();
        promise16LastDay();
        promise17Pay();
        promise18Strangers();
        promise18EachOnce();
        promise18VisitsKept();
        DUE.end();
    }

    private static void promise14Answer() {
        MorningDesk desk = new MorningDesk();
        desk.teacher(1, 1, 9);
        desk.teacher(1, 1, 9);
        desk.gap(0, 0, 0, 1, 1);
        desk.gap(0, 0, 0, 0, 1);
        DUE.is("yes", desk.answer(0, 0), true);
        DUE.is("sent", desk.look(0, 3), 1);
        DUE.is("to the match's gap", desk.look(0, 4), 1);
        DUE.is("again", desk.answer(0, 1), false);
        DUE.is("still sent", desk.look(0, 3), 1);
        desk.gap(0, 0, 0, 0, 1);
        DUE.is("no", desk.answer(1, 1), true);
        DUE.is("out", desk.look(1, 3), 2);
        DUE.is("was reached", desk.look(1, 5), 0);
        DUE.is("yes from one who is out", desk.answer(1, 0), false);
        DUE.is("still out", desk.look(1, 3), 2);
    }

    private static void promise14NotReached() {
        MorningDesk desk = new MorningDesk();
        desk.teacher(1, 1, 9);
        desk.gap(0, 0, 0, 0, 1);
        Due.rules(desk, "r3");
        for (int times = 1; times <= 3; times++) {
            DUE.is("not reached", desk.answer(0, 2), true);
            DUE.is("times", desk.look(0, 5), times);
            DUE.is("out the third time", desk.look(0, 3), times == 3 ? 2 : 0);
        }
        DUE.is("a fourth time", desk.answer(0, 2), false);
        DUE.is("three times", desk.look(0, 5), 3);
        desk.day();
        desk.gap(0, 0, 0, 0, 1);
        DUE.is("today not yet", desk.look(0, 5), 0);
        DUE.is("not reached today", desk.answer(0, 2), true);
        DUE.is("free", desk.look(0, 3), 0);
        DUE.is("reached then", desk.answer(0, 0), true);
        DUE.is("sent", desk.look(0, 3), 1);
        DUE.is("once not reached", desk.look(0, 5), 1);
    }

    private static void promise14FewerTriesThanMisses() {
        MorningDesk desk = new MorningDesk();
        desk.teacher(1, 1, 9);
        desk.gap(0, 0, 0, 0, 1);
        Due.rules(desk, "r9");
        for (int times = 1; times <= 4; times++) {
            desk.answer(0, 2);
        }
        Due.rules(desk, "r2");
        DUE.is("new rules alone send nobody out", desk.look(0, 3), 0);
        DUE.is("one who is free says yes still", desk.who(0), 0);
        desk.answer(0, 2);
        DUE.is("five times, of two", desk.look(0, 3), 2);
    }

    private static void promise14Refused() {
        MorningDesk desk = new MorningDesk();
        desk.teacher(1, 1, 9);
        desk.teacher(1, 1, 9);
        desk.teacher(1, 2, 9);
        DUE.is("no gap", desk.answer(0, 0), false);
        desk.gap(0, 0, 0, 0, 1);
        for (int wrong : new int[] {LOW, -1, 3, 12, HIGH}) {
            DUE.is("teacher " + wrong, desk.answer(wrong, 0), false);
            DUE.is("how " + wrong, desk.answer(0, wrong), false);
        }
        for (int how = 0; how < 3; how++) {
            DUE.is("not in the match", desk.answer(1, how), false);
            DUE.is("can fill none", desk.answer(2, how), false);
        }
        for (int t = 0; t < 3; t++) {
            DUE.is("nothing changed", desk.look(t, 3), 0);
            DUE.is("nobody was missed", desk.look(t, 5), 0);
        }
    }

    private static void promise16Day() {
        MorningDesk desk = new MorningDesk();
        for (int t = 0; t < 3; t++) {
            desk.teacher(1, 1, 2);
            desk.gap(0, 0, 0, 0, 1);
        }
        desk.answer(0, 0);
        desk.answer(1, 1);
        desk.answer(2, 2);
        DUE.is("day", desk.day(), 1);
        DUE.is("which it is", desk.count(0), 1);
        for (int t = 0; t < 3; t++) {
            DUE.is("free", desk.look(t, 3), 0);
            DUE.is("nowhere", desk.look(t, 4), -1);
            DUE.is("not missed", desk.look(t, 5), 0);
            DUE.is("worked", desk.look(t, 6), t == 0 ? 1 : 0);
        }
        DUE.is("gaps are gone", desk.count(2), 0);
        DUE.is("nobody is sent", desk.count(3), 0);
        DUE.is("nobody is out", desk.count(4), 0);
        DUE.is("a visit", desk.count(6), 1);
        desk.day();
        DUE.is("nobody worked", desk.look(0, 6), 1);
        DUE.is("no visit", desk.count(6), 1);
    }

    private static void promise16LastDay() {
        // Above 512 calls nothing is promised of one object, but the last day can't be seen below that.
        MorningDesk desk = new MorningDesk();
        desk.teacher(1, 1, 3000);
        for (int day = 1; day <= 2000; day++) {
            DUE.is("day", desk.day(), day);
        }
        desk.gap(0, 0, 0, 0, 1);
        desk.answer(0, 0);
        DUE.is("no day more", desk.day(), -1);
        DUE.is("the day stays", desk.count(0), 2000);
        DUE.is("the gap stays", desk.count(2), 1);
        DUE.is("sent still", desk.look(0, 3), 1);
        DUE.is("unpaid still", desk.pay(0), 0);
    }

    private static void promise17Pay() {
        MorningDesk desk = new MorningDesk();
        DUE.is("nobody", desk.pay(0), 0);
        desk.teacher(0b10, 1, 9);
        desk.gap(0, 0, 1, 0, 3);
        desk.answer(0, 0);
        DUE.is("not yet", desk.pay(0), 0);
        desk.day();
        DUE.is("a subject of theirs", desk.pay(0), 3 * 2300);
        desk.gap(0, 0, 0, 0, 8);
        desk.answer(0, 0);
        Due.rules(desk, "p9999;q9");
        desk.day();
        DUE.is("another subject, by the rules when the day goes by", desk.pay(0), 3 * 2300 + 8 * 9999);
        desk.gap(0, 0, 1, 0, 1);
        desk.answer(0, 0);
        desk.day();
        DUE.is("all days together", desk.pay(0), 3 * 2300 + 8 * 9999 + 10008);
        for (int wrong : new int[] {LOW, -1, 1, 12, HIGH}) {
            DUE.is("pay of " + wrong, desk.pay(wrong), 0);
        }
    }

    private static void promise18Strangers() {
        MorningDesk desk = new MorningDesk();
        for (int wrong : new int[] {LOW, -1, 6, HIGH}) {
            DUE.is("school " + wrong, desk.strangers(wrong, 0), -1);
        }
        for (int wrong : new int[] {LOW, -1, 16, HIGH}) {
            DUE.is("class " + wrong, desk.strangers(0, wrong), -1);
        }
        DUE.is("the highest ones", desk.strangers(5, 15), 0);
        desk.teacher(1, 1, 3000);
        desk.day();
        desk.gap(4, 15, 0, 0, 1);
        desk.answer(0, 0);
        DUE.is("today does not count", desk.strangers(4, 15), 0);
        for (int day = 2; day <= 31; day++) {
            desk.day();
            DUE.is("on day " + day, desk.strangers(4, 15), 1);
        }
        DUE.is("another school", desk.strangers(5, 15), 0);
        DUE.is("another class", desk.strangers(4, 14), 0);
        desk.day();
        DUE.is("31 days behind", desk.strangers(4, 15), 0);
        DUE.is("kept still", desk.count(6), 1);
    }

    private static void promise18EachOnce() {
        MorningDesk desk = new MorningDesk();
        for (int t = 0; t < 12; t++) {
            desk.teacher(1, 1, 3000);
        }
        for (int day = 0; day < 2; day++) {
            for (int g = 0; g < 10; g++) {
                desk.gap(3, 7, 0, 0, 1);
            }
            for (int g = 0; g < 10; g++) {
                desk.answer(desk.next(), 0);
            }
            desk.day();
            DUE.is("each once", desk.strangers(3, 7), day == 0 ? 10 : 12);
        }
        DUE.is("twenty visits", desk.count(6), 20);
    }

    private static void promise18VisitsKept() {
        // Above 512 calls too: 400 visits take more.
        MorningDesk desk = new MorningDesk();
        for (int t = 0; t < 12; t++) {
            desk.teacher(1, 1, 3000);
        }
        for (int day = 1; day <= 45; day++) {
            for (int g = 0; g < 10; g++) {
                desk.gap(day % 6, 0, 0, 0, 1);
            }
            for (int g = 0; g < 10; g++) {
                desk.answer(desk.next(), 0);
            }
            desk.day();
            DUE.is("visits kept", desk.count(6), Math.min(10 * day, 400));
            DUE.is("the latest are", desk.strangers(day % 6, 0) >= 10, true);
        }
    }
}
