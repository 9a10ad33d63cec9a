/** Counts and prints the answers of a test that are not the ones due. */
final class Due {
    private int wrong;
    private int asked;

    void is(String what, long got, long want) {
        asked++;
        if (got != want) {
            wrong++;
            System.out.println(what + ": answered " + got + ", due is " + want);
        }
    }

    void is(String what, boolean got, boolean want) {
        is(what, got ? 1 : 0, want ? 1 : 0);
    }

    int asked() {
        return asked;
    }

    void end() {
        System.out.println(wrong == 0 ? asked + " answers are as due" : wrong + " of " + asked + " are not as due");
        if (wrong != 0) {
            System.exit(1);
        }
    }

    /** Feeds a text, filled up with blanks to a multiple of twenty bytes. */
    static void feed(MorningDesk desk, String text) {
        for (int from = 0; from < text.length(); from += 20) {
            desk.feed(four(text, from), four(text, from + 4), four(text, from + 8), four(text, from + 12),
                    four(text, from + 16));
        }
    }

    /** Feeds a text to an empty tape and makes it the rules. */
    static int rules(MorningDesk desk, String text) {
        feed(desk, text);
        return desk.rules(text.length());
    }

    static int four(String text, int from) {
        int sum = 0;
        for (int i = from; i < from + 4; i++) {
            sum = sum << 8 | (i < text.length() ? text.charAt(i) & 255 : ' ');
        }
        return sum;
    }
}
