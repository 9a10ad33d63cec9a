/** Promises 1 (a new object), 4 to 7 (teacher, way, likes, gap), 19 to 21 (look, about, count). */
public final class PeopleTest {
    private static final Due DUE = new Due();
    private static final int LOW = Integer.MIN_VALUE;
    private static final int HIGH = Integer.MAX_VALUE;

    public static void main(String[] args) {
        promise1NewObject();
        promise4Teacher();
        promise5Way();
        promise6Likes();
        promise7Gap();
        promise19Look();
        promise20About();
        promise21Count();
        DUE.end();
    }

    private static void promise1NewObject() {
        MorningDesk used = new MorningDesk();
        used.teacher(1, 1, 1);
        used.gap(0, 0, 0, 0, 1);
        used.day();
        MorningDesk desk = new MorningDesk();
        for (int what = 0; what <= 6; what++) {
            DUE.is("new: count " + what, desk.count(what), 0);
        }
        DUE.is("new: match", desk.match(), 0);
        DUE.is("new: costs", desk.costs(), 0);
        DUE.is("new: who", desk.who(0), -1);
        DUE.is("new: next", desk.next(), -1);
        DUE.is("new: hall", desk.hall(), 0);
        DUE.is("new: look", desk.look(0, 0), -1);
        DUE.is("new: about", desk.about(0, 0), -1);
        DUE.is("new: strangers", desk.strangers(0, 0), 0);
        DUE.is("NONE", MorningDesk.NONE, -1);
    }

    private static void promise4Teacher() {
        MorningDesk desk = new MorningDesk();
        int[][] no = {{-1, 0, 0}, {256, 0, 0}, {0, -1, 0}, {0, 16, 0}, {0, 0, -1}, {0, 0, 3001}, {LOW, 0, 0},
            {HIGH, 0, 0}, {0, LOW, 0}, {0, HIGH, 0}, {0, 0, LOW}, {0, 0, HIGH}};
        for (int[] row : no) {
            DUE.is("teacher " + row[0] + " " + row[1] + " " + row[2], desk.teacher(row[0], row[1], row[2]), -1);
        }
        DUE.is("none came", desk.count(1), 0);
        DUE.is("least", desk.teacher(0, 0, 0), 0);
        DUE.is("most", desk.teacher(255, 15, 3000), 1);
        DUE.is("subjects", desk.look(1, 0), 255);
        DUE.is("ages", desk.look(1, 1), 15);
        DUE.is("check", desk.look(1, 2), 3000);
        for (int what = 3; what <= 8; what++) {
            DUE.is("at first: look " + what, desk.look(1, what), what == 4 ? -1 : 0);
        }
        for (int school = 0; school < 6; school++) {
            DUE.is("way at first", desk.look(1, 10 + school), 30);
        }
        for (int t = 2; t < 12; t++) {
            DUE.is("teacher " + t, desk.teacher(t, 1, t), t);
        }
        DUE.is("a thirteenth", desk.teacher(1, 1, 1), -1);
        DUE.is("twelve", desk.count(1), 12);
        desk.day();
        DUE.is("a thirteenth on another day", desk.teacher(1, 1, 1), -1);
    }

    private static void promise5Way() {
        MorningDesk desk = new MorningDesk();
        DUE.is("way of nobody", desk.way(0, 0, 0), false);
        desk.teacher(1, 1, 1);
        desk.teacher(1, 1, 1);
        int[][] no = {{-1, 0, 0}, {2, 0, 0}, {12, 0, 0}, {LOW, 0, 0}, {HIGH, 0, 0}, {0, -1, 0}, {0, 6, 0},
            {0, LOW, 0}, {0, HIGH, 0}, {0, 0, -1}, {0, 0, 201}, {0, 0, LOW}, {0, 0, HIGH}};
        for (int[] row : no) {
            DUE.is("way " + row[0] + " " + row[1] + " " + row[2], desk.way(row[0], row[1], row[2]), false);
        }
        DUE.is("as at first", desk.look(0, 10), 30);
        DUE.is("way 0", desk.way(0, 0, 0), true);
        DUE.is("way 200", desk.way(0, 5, 200), true);
        DUE.is("look 0", desk.look(0, 10), 0);
        DUE.is("look 200", desk.look(0, 15), 200);
        DUE.is("another school's", desk.look(0, 11), 30);
        DUE.is("another's", desk.look(1, 10), 30);
        desk.day();
        DUE.is("on the next day", desk.look(0, 15), 200);
    }

    private static void promise6Likes() {
        MorningDesk desk = new MorningDesk();
        DUE.is("nobody likes", desk.likes(0, 0, 0), false);
        desk.teacher(1, 1, 1);
        desk.teacher(1, 1, 1);
        DUE.is("likes", desk.likes(0, 63, 0), true);
        DUE.is("liked", desk.look(0, 7), 63);
        DUE.is("barred from none", desk.look(0, 8), 0);
        int[][] no = {{-1, 1, 1}, {2, 1, 1}, {LOW, 1, 1}, {HIGH, 1, 1}, {0, -1, 1}, {0, 64, 1}, {0, LOW, 1},
            {0, HIGH, 1}, {0, 1, -1}, {0, 1, 64}, {0, 1, LOW}, {0, 1, HIGH}};
        for (int[] row : no) {
            DUE.is("likes " + row[0] + " " + row[1] + " " + row[2], desk.likes(row[0], row[1], row[2]), false);
        }
        DUE.is("still liked", desk.look(0, 7), 63);
        DUE.is("still barred from none", desk.look(0, 8), 0);
        DUE.is("likes other ones", desk.likes(0, 5, 63), true);
        DUE.is("these alone are liked", desk.look(0, 7), 5);
        DUE.is("these alone are barred", desk.look(0, 8), 63);
        DUE.is("another's liked", desk.look(1, 7), 0);
        DUE.is("another's barred", desk.look(1, 8), 0);
    }

    private static void promise7Gap() {
        MorningDesk desk = new MorningDesk();
        int[] most = {5, 15, 7, 3, 8};
        for (int i = 0; i < 5; i++) {
            for (int wrong : new int[] {LOW, -1, i == 4 ? 0 : -1, most[i] + 1, HIGH}) {
                int[] row = {0, 0, 0, 0, 1};
                row[i] = wrong;
                DUE.is("gap, number " + i + " is " + wrong, desk.gap(row[0], row[1], row[2], row[3], row[4]), -1);
            }
        }
        DUE.is("none came", desk.count(2), 0);
        DUE.is("least", desk.gap(0, 0, 0, 0, 1), 0);
        DUE.is("most", desk.gap(5, 15, 7, 3, 8), 1);
        for (int g = 2; g < 10; g++) {
            DUE.is("gap " + g, desk.gap(0, 0, 0, 0, 1), g);
        }
        DUE.is("an eleventh", desk.gap(0, 0, 0, 0, 1), -1);
        DUE.is("ten", desk.count(2), 10);
        desk.day();
        DUE.is("from 0 on the next day", desk.gap(0, 0, 0, 0, 1), 0);
    }

    private static void promise19Look() {
        MorningDesk desk = new MorningDesk();
        desk.teacher(6, 9, 77);
        desk.teacher(0, 0, 0);
        desk.likes(0, 3, 32);
        for (int school = 0; school < 6; school++) {
            desk.way(0, school, 40 + school);
        }
        desk.gap(2, 0, 0, 1, 1);
        desk.gap(2, 0, 0, 0, 1);
        int[] due = {6, 9, 77, 0, -1, 0, 0, 3, 32, -1, 40, 41, 42, 43, 44, 45, -1};
        for (int what = 0; what < due.length; what++) {
            DUE.is("look " + what, desk.look(0, what), due[what]);
        }
        desk.answer(0, 2);
        DUE.is("not reached once", desk.look(0, 5), 1);
        DUE.is("still free", desk.look(0, 3), 0);
        desk.answer(0, 0);
        DUE.is("sent", desk.look(0, 3), 1);
        DUE.is("sent where", desk.look(0, 4), 1);
        desk.day();
        DUE.is("worked", desk.look(0, 6), 1);
        DUE.is("free again", desk.look(0, 3), 0);
        DUE.is("sent nowhere", desk.look(0, 4), -1);
        DUE.is("not missed today", desk.look(0, 5), 0);
        desk.gap(2, 0, 0, 0, 1);
        desk.answer(0, 1);
        DUE.is("out", desk.look(0, 3), 2);
        DUE.is("out, sent nowhere", desk.look(0, 4), -1);
        for (int wrong : new int[] {LOW, -1, 9, 16, 17, 100, HIGH}) {
            DUE.is("look at what " + wrong, desk.look(0, wrong), -1);
        }
        for (int wrong : new int[] {LOW, -1, 2, 12, HIGH}) {
            DUE.is("look at teacher " + wrong, desk.look(wrong, 0), -1);
            DUE.is("look at the way of teacher " + wrong, desk.look(wrong, 10), -1);
        }
    }

    private static void promise20About() {
        MorningDesk desk = new MorningDesk();
        desk.gap(5, 14, 7, 3, 8);
        desk.gap(1, 2, 3, 0, 4);
        int[] first = {5, 14, 7, 3, 8};
        int[] second = {1, 2, 3, 0, 4};
        for (int what = 0; what < 5; what++) {
            DUE.is("about 0, " + what, desk.about(0, what), first[what]);
            DUE.is("about 1, " + what, desk.about(1, what), second[what]);
        }
        for (int wrong : new int[] {LOW, -1, 5, 6, HIGH}) {
            DUE.is("about what " + wrong, desk.about(0, wrong), -1);
        }
        for (int wrong : new int[] {LOW, -1, 2, 10, HIGH}) {
            DUE.is("about gap " + wrong, desk.about(wrong, 0), -1);
        }
        desk.day();
        DUE.is("gone on the next day", desk.about(0, 0), -1);
    }

    private static void promise21Count() {
        MorningDesk desk = new MorningDesk();
        for (int t = 0; t < 5; t++) {
            desk.teacher(1, 1, 100);
        }
        for (int g = 0; g < 4; g++) {
            desk.gap(0, g, 0, 0, 1);
        }
        desk.feed(0, 0, 0, 0, 0);
        desk.answer(0, 0);
        desk.answer(1, 0);
        desk.answer(2, 0);
        desk.answer(3, 1);
        int[] due = {0, 5, 4, 3, 1, 20, 0, -1, -1, -1, 60, 60, 5, 20, 2000, 300, 2, -1};
        for (int what = 0; what < due.length; what++) {
            DUE.is("count " + what, desk.count(what), due[what]);
        }
        desk.day();
        int[] then = {1, 5, 0, 0, 0, 20, 3};
        for (int what = 0; what < then.length; what++) {
            DUE.is("on the next day, count " + what, desk.count(what), then[what]);
        }
        for (int wrong : new int[] {LOW, -1, 7, 8, 9, 17, 100, HIGH}) {
            DUE.is("count what " + wrong, desk.count(wrong), -1);
        }
    }
}
