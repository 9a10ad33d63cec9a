/** Boundary cases of the tape and the RULES: promises 2 and 3, and the Terms' letters, numbers and FAULTS. */
public final class EdgeRulesTest {
    private static final Due DUE = new Due();
    private static final String LETTERS = "wsdlpqr";
    private static final int[] AT_FIRST = {60, 60, 5, 20, 2000, 300, 2};
    private static final int[] FORMER = {1, 2, 3, 4, 5, 6, 7};
    private static final String FORMER_TEXT = "w1;s2;d3;l4;p5;q6;r7";
    private static final String SIXTY = "w0011;s0022;d0033;l0044;p0055;q0066;r0007;w0012;s0023;w9;d34";

    public static void main(String[] args) {
        numbersAtFirst();
        wFrom0To120();
        sFrom0To999();
        dFrom0To99();
        lFrom0To99();
        pFrom0To9999();
        qFrom0To9999();
        rFrom1To9();
        oneToFourDigits();
        whatNoClauseTellsIsAsAtFirst();
        theLaterOneOfALetterCounts();
        fault1EachByte();
        fault1EachByteBehindSemicolon();
        fault1TheEnd();
        fault2EachByte();
        fault2TheEnd();
        fault3EachByte();
        fault4AskedWhenDigitsEnd();
        fault5EachByte();
        noBlanks();
        theFirstFaultFromTheLeft();
        placesAtTheEndOfSixty();
        bytesBehindTheFirstNAreNotRead();
        aFaultLeavesTheRulesAndEmptiesTheTape();
        readRulesEmptyTheTape();
        feedUpTo60();
        feedAboveSixtyLeavesTheTape();
        feedHighestByteFirst();
        feedBehindTheTape();
        rulesOfMoreThanTheTapeHas();
        rulesOfLessThanNone();
        rulesOfNone();
        DUE.end();
    }

    private static void numbersAre(MorningDesk desk, String what, int... due) {
        for (int i = 0; i < due.length; i++) {
            DUE.is(what + ", " + LETTERS.charAt(i), desk.count(10 + i), due[i]);
        }
    }

    /** A desk whose rules are none of those at first. */
    private static MorningDesk former() {
        MorningDesk desk = new MorningDesk();
        DUE.is("former rules", Due.rules(desk, FORMER_TEXT), 0);
        return desk;
    }

    private static void taken(String text, char letter, int value) {
        MorningDesk desk = former();
        DUE.is("rules " + text, Due.rules(desk, text), 0);
        int[] due = AT_FIRST.clone();
        due[LETTERS.indexOf(letter)] = value;
        numbersAre(desk, "rules " + text, due);
    }

    private static void fault(String text, int due) {
        MorningDesk desk = former();
        DUE.is("rules " + text, Due.rules(desk, text), due);
        numbersAre(desk, "they stay behind " + text, FORMER);
    }

    private static void numbersAtFirst() {
        numbersAre(new MorningDesk(), "at first", 60, 60, 5, 20, 2000, 300, 2);
    }

    private static void wFrom0To120() {
        taken("w0", 'w', 0);
        taken("w120", 'w', 120);
        fault("w121", 401);
        fault("w-1", 201);
        fault("w9999", 401);
    }

    private static void sFrom0To999() {
        taken("s0", 's', 0);
        taken("s999", 's', 999);
        fault("s1000", 401);
        fault("s-1", 201);
        fault("s9999", 401);
    }

    private static void dFrom0To99() {
        taken("d0", 'd', 0);
        taken("d99", 'd', 99);
        fault("d100", 401);
        fault("d-1", 201);
        fault("d9999", 401);
    }

    private static void lFrom0To99() {
        taken("l0", 'l', 0);
        taken("l99", 'l', 99);
        fault("l100", 401);
        fault("l-1", 201);
        fault("l9999", 401);
    }

    private static void pFrom0To9999() {
        taken("p0", 'p', 0);
        taken("p9999", 'p', 9999);
        fault("p10000", 305);
        fault("p-1", 201);
    }

    private static void qFrom0To9999() {
        taken("q0", 'q', 0);
        taken("q9999", 'q', 9999);
        fault("q10000", 305);
        fault("q-1", 201);
    }

    private static void rFrom1To9() {
        taken("r1", 'r', 1);
        taken("r9", 'r', 9);
        fault("r0", 401);
        fault("r10", 401);
        fault("r-1", 201);
        fault("r9999", 401);
    }

    private static void oneToFourDigits() {
        taken("p7", 'p', 7);
        taken("p65", 'p', 65);
        taken("p654", 'p', 654);
        taken("p6543", 'p', 6543);
        fault("p", 201);
        fault("p65432", 305);
        taken("w0120", 'w', 120);
        taken("r0009", 'r', 9);
        taken("s0000", 's', 0);
        fault("r0000", 401);
        fault("r0010", 401);
        fault("w00000", 305);
        fault("w00120", 305);
        fault("r00001", 305);
    }

    private static void whatNoClauseTellsIsAsAtFirst() {
        for (int i = 0; i < LETTERS.length(); i++) {
            taken(LETTERS.charAt(i) + "8", LETTERS.charAt(i), 8);
        }
    }

    private static void theLaterOneOfALetterCounts() {
        for (int i = 0; i < LETTERS.length(); i++) {
            char letter = LETTERS.charAt(i);
            taken(letter + "9;" + letter + "4", letter, 4);
            taken(letter + "4;" + letter + "9", letter, 9);
            taken(letter + "4;" + letter + "9;" + letter + "1", letter, 1);
        }
    }

    private static void fault1EachByte() {
        for (char sign = 0; sign < 256; sign++) {
            if (LETTERS.indexOf(sign) >= 0) {
                taken(sign + "3", sign, 3);
            } else {
                fault(sign + "3", 100);
            }
        }
    }

    private static void fault1EachByteBehindSemicolon() {
        for (char sign = 0; sign < 256; sign++) {
            MorningDesk desk = former();
            String text = "p31;" + sign + "3";
            DUE.is("rules " + text, Due.rules(desk, text), LETTERS.indexOf(sign) >= 0 ? 0 : 104);
        }
    }

    private static void fault1TheEnd() {
        fault("", 100);
        fault("w1;", 103);
        fault("p1234;", 106);
        fault("w1;s22;", 107);
    }

    private static void fault2EachByte() {
        for (char sign = 0; sign < 256; sign++) {
            if (sign >= '0' && sign <= '9') {
                taken("p" + sign, 'p', sign - '0');
            } else {
                fault("p" + sign, 201);
                fault("w1;p" + sign + "1", 204);
            }
        }
    }

    private static void fault2TheEnd() {
        for (int i = 0; i < LETTERS.length(); i++) {
            fault("" + LETTERS.charAt(i), 201);
            fault("r1;" + LETTERS.charAt(i), 204);
        }
    }

    private static void fault3EachByte() {
        for (char sign = 0; sign < 256; sign++) {
            String text = "p1234" + sign;
            if (sign >= '0' && sign <= '9') {
                fault(text, 305);
                fault("w1;" + text, 308);
                fault(text + "67;", 305);
            } else {
                fault(text, sign == ';' ? 106 : 505);
            }
        }
    }

    private static void fault4AskedWhenDigitsEnd() {
        // Its fifth digit is told ahead of a number that can't be, this ahead of what stands behind it.
        fault("w12100", 305);
        fault("r00000", 305);
        fault("w1210", 401);
        fault("w121x", 401);
        fault("w121;", 401);
        fault("w121;x", 401);
        fault("w121;w1", 401);
        fault("s1;w121", 404);
        fault("p9999;q9999;r0", 413);
    }

    private static void fault5EachByte() {
        for (char sign = 0; sign < 256; sign++) {
            String text = "w1" + sign + "s2";
            MorningDesk desk = former();
            boolean digit = sign >= '0' && sign <= '9';
            DUE.is("rules " + text, Due.rules(desk, text), sign == ';' ? 0 : digit ? 503 : 502);
            numbersAre(desk, text, sign == ';' ? new int[] {1, 2, 5, 20, 2000, 300, 2} : FORMER);
        }
    }

    private static void noBlanks() {
        fault(" w1", 100);
        fault("w 1", 201);
        fault("w1 ", 502);
        fault("w1 ;s1", 502);
        fault("w1; s1", 103);
        fault("p1 2", 502);
    }

    private static void theFirstFaultFromTheLeft() {
        fault("x;w;w00000;w121;w1x", 100);
        fault("w;w00000;w121;w1x;x", 201);
        fault("w00000;w121;w1x;x;w", 305);
        fault("w121;w1x;x;w;w00000", 401);
        fault("w1x;x;w;w00000;w121", 502);
    }

    private static void placesAtTheEndOfSixty() {
        String front = SIXTY.substring(0, 54);
        DUE.is("front ends a clause", front.charAt(53) == ';', true);
        fault(front + "w1;w1;", 160);
        fault(front + "w1;s1w", 559);
        fault(front + "p11;;w", 158);
        fault(front + "w1;11;", 157);
        fault(front + "p111;p", 260);
        fault(front + "p11;p;", 259);
        fault(front + "p12345", 359);
        fault(front + "p11;r0", 459);
        fault(front + "p1;r10", 458);
        fault(front + "p1234 ", 559);
        MorningDesk desk = former();
        DUE.is("sixty bytes", Due.rules(desk, SIXTY), 0);
        numbersAre(desk, "sixty bytes", 9, 23, 34, 44, 55, 66, 7);
    }

    private static void bytesBehindTheFirstNAreNotRead() {
        cut("w1", 1, 201);
        cut("w12", 2, 0);
        cut("w121", 3, 0);
        cut("w121", 4, 401);
        cut("p12345", 5, 0);
        cut("p12345", 6, 305);
        cut("w1x", 2, 0);
        cut("w1x", 3, 502);
        cut("w1;s1", 3, 103);
        cut("w1;s1", 4, 204);
        cut("w1;s1", 5, 0);
        cut("r10", 2, 0);
        MorningDesk desk = former();
        Due.feed(desk, SIXTY);
        DUE.is("five of sixty", desk.rules(5), 0);
        numbersAre(desk, "five of sixty", 11, 60, 5, 20, 2000, 300, 2);
        DUE.is("the rest is gone", desk.count(5), 0);
    }

    private static void cut(String text, int n, int due) {
        MorningDesk desk = former();
        Due.feed(desk, text);
        DUE.is("the first " + n + " of " + text, desk.rules(n), due);
        DUE.is("the tape behind " + n + " of " + text, desk.count(5), 0);
    }

    private static void aFaultLeavesTheRulesAndEmptiesTheTape() {
        for (String text : new String[] {"x", "w", "p12345", "w121", "w1x", "w9;s9;d9;l9;p9;q9;r9;x"}) {
            MorningDesk desk = former();
            Due.feed(desk, text);
            DUE.is("a fault in " + text, desk.rules(text.length()) >= 100, true);
            numbersAre(desk, "they stay behind " + text, FORMER);
            DUE.is("empty behind " + text, desk.count(5), 0);
            DUE.is("no byte is there behind " + text, desk.rules(1), -1);
            DUE.is("feed behind " + text, desk.feed(0, 0, 0, 0, 0), 20);
        }
    }

    private static void readRulesEmptyTheTape() {
        MorningDesk desk = new MorningDesk();
        Due.feed(desk, "w7");
        DUE.is("before", desk.count(5), 20);
        DUE.is("read", desk.rules(2), 0);
        DUE.is("behind", desk.count(5), 0);
        DUE.is("not again", desk.rules(2), -1);
        numbersAre(desk, "still", 7, 60, 5, 20, 2000, 300, 2);
    }

    private static void feedUpTo60() {
        MorningDesk desk = new MorningDesk();
        DUE.is("no byte at first", desk.count(5), 0);
        for (int size = 20; size <= 60; size += 20) {
            DUE.is("feed to " + size, desk.feed(0, 0, 0, 0, 0), size);
            DUE.is("it has " + size, desk.count(5), size);
        }
        DUE.is("feed to 80", desk.feed(0, 0, 0, 0, 0), -1);
        DUE.is("it has 60 still", desk.count(5), 60);
        DUE.is("feed to 80 again", desk.feed(Edge.HIGH, Edge.LOW, -1, 0, 1), -1);
        DUE.is("all sixty can be read", desk.rules(60), 100);
        DUE.is("feed to 20 again", desk.feed(0, 0, 0, 0, 0), 20);
    }

    private static void feedAboveSixtyLeavesTheTape() {
        MorningDesk desk = former();
        Due.feed(desk, SIXTY);
        DUE.is("refused", desk.feed(0x77313b77, 0x323b7733, 0x3b77343b, 0x77353b77, 0x3636363b), -1);
        DUE.is("it has 60", desk.count(5), 60);
        numbersAre(desk, "rules stay", FORMER);
        DUE.is("its bytes stay", desk.rules(60), 0);
        numbersAre(desk, "its bytes stay", 9, 23, 34, 44, 55, 66, 7);
    }

    private static void feedHighestByteFirst() {
        MorningDesk desk = new MorningDesk();
        DUE.is("fed", desk.feed(0x77313b73, 0x323b6433, 0x3b6c343b, 0x70353b71, 0x363b7237), 20);
        DUE.is("read", desk.rules(20), 0);
        numbersAre(desk, "twenty bytes", FORMER);
        // Bytes from 128 on: each is one of a clause but for its highest bit.
        desk.feed(0xf7313b73, 0, 0, 0, 0);
        DUE.is("247 is no w", desk.rules(2), 100);
        desk.feed(0x77b13b73, 0, 0, 0, 0);
        DUE.is("177 is no digit", desk.rules(2), 201);
        desk.feed(0x7731bb73, 0, 0, 0, 0);
        DUE.is("187 is no semicolon", desk.rules(3), 502);
        desk.feed(0x773131b1, 0, 0, 0, 0);
        DUE.is("177 is no digit behind digits", desk.rules(4), 503);
    }

    private static void feedBehindTheTape() {
        MorningDesk desk = new MorningDesk();
        for (int from = 0; from < 60; from += 20) {
            DUE.is("feed from " + from, desk.feed(Due.four(SIXTY, from), Due.four(SIXTY, from + 4),
                    Due.four(SIXTY, from + 8), Due.four(SIXTY, from + 12), Due.four(SIXTY, from + 16)), from + 20);
        }
        DUE.is("read", desk.rules(60), 0);
        numbersAre(desk, "three feeds", 9, 23, 34, 44, 55, 66, 7);
    }

    private static void rulesOfMoreThanTheTapeHas() {
        for (int size = 0; size <= 60; size += 20) {
            for (int n : new int[] {size + 1, size + 20, 61, 256, Edge.HIGH}) {
                MorningDesk desk = former();
                Due.feed(desk, SIXTY.substring(0, size));
                DUE.is(n + " of " + size, desk.rules(n), -1);
                DUE.is("the tape stays", desk.count(5), size);
                numbersAre(desk, "rules stay", FORMER);
                DUE.is("its bytes stay", desk.rules(size == 0 ? 0 : 11), size == 0 ? 100 : 0);
                numbersAre(desk, "its bytes stay", size == 0 ? FORMER : new int[] {11, 22, 5, 20, 2000, 300, 2});
            }
        }
    }

    private static void rulesOfLessThanNone() {
        for (int n : new int[] {-1, -20, -60, -256, Edge.LOW}) {
            MorningDesk desk = former();
            DUE.is(n + " of none", desk.rules(n), -1);
            Due.feed(desk, SIXTY);
            DUE.is(n + " of sixty", desk.rules(n), -1);
            DUE.is("the tape stays", desk.count(5), 60);
            numbersAre(desk, "rules stay", FORMER);
            DUE.is("its bytes stay", desk.rules(60), 0);
        }
    }

    private static void rulesOfNone() {
        for (int size = 0; size <= 60; size += 20) {
            MorningDesk desk = former();
            Due.feed(desk, SIXTY.substring(0, size));
            DUE.is("none of " + size, desk.rules(0), 100);
            DUE.is("the tape is empty", desk.count(5), 0);
            numbersAre(desk, "rules stay", FORMER);
        }
    }
}
