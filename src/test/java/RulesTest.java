/** Promises 2 (feed) and 3 (rules). */
public final class RulesTest {
    private static final Due DUE = new Due();

    public static void main(String[] args) {
        promise2Feed();
        promise2HighestByteFirst();
        promise3Numbers();
        promise3Faults();
        promise3FirstFaultFromTheLeft();
        promise3TapeAndFormerRules();
        DUE.end();
    }

    private static void promise2Feed() {
        MorningDesk desk = new MorningDesk();
        DUE.is("feed 1", desk.feed(0, 0, 0, 0, 0), 20);
        DUE.is("feed 2", desk.feed(1, 2, 3, 4, 5), 40);
        DUE.is("feed 3", desk.feed(-1, -1, -1, -1, -1), 60);
        DUE.is("feed 4", desk.feed(0, 0, 0, 0, 0), -1);
        DUE.is("the tape stays", desk.count(5), 60);
        DUE.is("rules read 60", desk.rules(60), 100);
        DUE.is("feed again", desk.feed(0, 0, 0, 0, 0), 20);
    }

    private static void promise2HighestByteFirst() {
        MorningDesk desk = new MorningDesk();
        // "w12;" "s34;" "d5;l" "67;r" "8;p9" and "0;q1" over two feeds, in their order
        desk.feed(0x7731323b, 0x7333343b, 0x64353b6c, 0x36373b72, 0x383b7039);
        desk.feed(0x303b7131, 0, 0, 0, 0);
        DUE.is("rules over two feeds", desk.rules(24), 0);
        numbers(desk, "over two feeds", 12, 34, 5, 67, 90, 1, 8);
    }

    private static void numbers(MorningDesk desk, String text, int... due) {
        for (int i = 0; i < due.length; i++) {
            DUE.is("rules " + text + ", number " + i, desk.count(10 + i), due[i]);
        }
    }

    private static void promise3Numbers() {
        accepted("w0;s0;d0;l0;p0;q0;r1", 0, 0, 0, 0, 0, 0, 1);
        accepted("w120;s999;d99;l99;p9999;q9999;r9", 120, 999, 99, 99, 9999, 9999, 9);
        accepted("w0120;s0001", 120, 1, 5, 20, 2000, 300, 2);
        accepted("r9;r3;w7", 7, 60, 5, 20, 2000, 300, 3);
        accepted("p1", 60, 60, 5, 20, 1, 300, 2);
        accepted("q0000", 60, 60, 5, 20, 2000, 0, 2);
    }

    private static void accepted(String text, int... due) {
        MorningDesk desk = new MorningDesk();
        numbers(desk, "at first", 60, 60, 5, 20, 2000, 300, 2);
        Due.rules(desk, "w1;s1;d1;l1;p1;q1;r1");
        DUE.is("rules " + text, Due.rules(desk, text), 0);
        DUE.is("tape behind " + text, desk.count(5), 0);
        numbers(desk, text, due);
    }

    private static void promise3Faults() {
        fault("", 100);
        fault("x1", 100);
        fault("W1", 100);
        fault(";w1", 100);
        fault(" w1", 100);
        fault("1", 100);
        fault((char) 0xf7 + "1", 100);
        fault("w1;", 103);
        fault("w1;;s1", 103);
        fault("w1; s1", 103);
        fault("w1;t1", 103);
        fault("w", 201);
        fault("w;", 201);
        fault("w-1", 201);
        fault("w/", 201);
        fault("w:", 201);
        fault("s1;w", 204);
        fault("w 1", 201);
        fault("w00001", 305);
        fault("p99999", 305);
        fault("d1;w00001", 308);
        fault("w121", 401);
        fault("s1000", 401);
        fault("d100", 401);
        fault("l100", 401);
        fault("r0", 401);
        fault("r10", 401);
        fault("r0000", 401);
        fault("w9999", 401);
        fault("w1;r0", 404);
        fault("w1x", 502);
        fault("w1 ", 502);
        fault("w1s1", 502);
        fault("w0001,", 505);
        fault("w1;s12:", 506);
    }

    private static void fault(String text, int due) {
        MorningDesk desk = new MorningDesk();
        Due.rules(desk, "w1;s2;d3;l4;p5;q6;r7");
        DUE.is("rules " + text, Due.rules(desk, text), due);
        numbers(desk, text, 1, 2, 3, 4, 5, 6, 7);
        DUE.is("tape behind " + text, desk.count(5), 0);
    }

    private static void promise3FirstFaultFromTheLeft() {
        // A number is asked when its digits end: behind a fifth digit, ahead of what stands behind it.
        fault("w99999", 305);
        fault("r00000", 305);
        fault("w999x", 401);
        fault("w999;x", 401);
        fault("r0;w1", 401);
        fault("w1x;y", 502);
        // A wrong number counts even if a later one of its letter would do.
        fault("w121;w120", 401);
    }

    private static void promise3TapeAndFormerRules() {
        MorningDesk desk = new MorningDesk();
        DUE.is("no byte there", desk.rules(1), -1);
        DUE.is("below none", desk.rules(-1), -1);
        DUE.is("far below none", desk.rules(Integer.MIN_VALUE), -1);
        Due.feed(desk, "w9;r3");
        DUE.is("more than there are", desk.rules(21), -1);
        DUE.is("far more", desk.rules(Integer.MAX_VALUE), -1);
        DUE.is("the tape stays", desk.count(5), 20);
        DUE.is("rules stay", desk.count(10), 60);
        DUE.is("the first bytes alone", desk.rules(2), 0);
        DUE.is("w", desk.count(10), 9);
        DUE.is("r was not read", desk.count(16), 2);
        DUE.is("the rest is gone", desk.count(5), 0);
        Due.feed(desk, "w9");
        DUE.is("the blank behind", desk.rules(20), 502);
        Due.feed(desk, "w9");
        DUE.is("none of it", desk.rules(0), 100);
        DUE.is("and the tape is empty", desk.count(5), 0);
        String sixty = "w1;w2;w3;w4;w5;w6;w7;w8;w9;w1;w2;w3;w4;w5;w6;w7;w8;w9;w1;w22";
        DUE.is("sixty bytes", Due.rules(desk, sixty), 0);
        DUE.is("the last of many", desk.count(10), 22);
        DUE.is("a fault at the end of sixty", Due.rules(desk, sixty.substring(0, 58) + "9;"), 160);
    }
}
