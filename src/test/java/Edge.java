/** The edges of a number that has a least and a most, and of a call that is refused. */
final class Edge {
    static final int LOW = Integer.MIN_VALUE;
    static final int HIGH = Integer.MAX_VALUE;
    private static final int AROUND = 70;

    /** Whether a new desk takes a value. */
    interface Taker {
        boolean takes(int value);
    }

    /** Brings a new desk to where a call is asked. */
    interface Scene {
        void make(MorningDesk desk);
    }

    interface Call {
        long ask(MorningDesk desk);
    }

    private Edge() {
    }

    /** All from the least to the most are taken; one below, one above, more of them and the far ones are not. */
    static void range(Due due, String what, int least, int most, Taker taker) {
        for (int value = least - AROUND; value <= most + AROUND; value++) {
            due.is(what + " " + value, taker.takes(value), value >= least && value <= most);
        }
        // Values whose lowest bits, or whose shift, are those of one that is taken.
        for (int bit = 9; bit < 32; bit++) {
            int far = (1 << bit) + least;
            due.is(what + " " + far, taker.takes(far), far >= least && far <= most);
        }
        due.is(what + ", the lowest int", taker.takes(LOW), false);
        due.is(what + ", the highest int", taker.takes(HIGH), false);
    }

    /** The call's answer, and that nothing can be seen of it: the desk looks like one that was not asked. */
    static void leavesAll(Due due, String what, Scene scene, Call call, long answer) {
        MorningDesk untouched = new MorningDesk();
        scene.make(untouched);
        MorningDesk asked = new MorningDesk();
        scene.make(asked);
        due.is(what, call.ask(asked), answer);
        String before = Picture.of(untouched);
        String behind = Picture.of(asked);
        due.is(what + " changes nothing; before:\n" + before + "\nbehind:\n" + behind, behind.equals(before), true);
    }
}
