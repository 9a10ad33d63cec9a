/** All that can be seen of a desk, in 377 calls at most: with the scene's own, below the 512 that are promised. */
final class Picture {
    private static final int WAYS = 10;

    private final MorningDesk desk;
    private final StringBuilder seen = new StringBuilder();

    private Picture(MorningDesk desk) {
        this.desk = desk;
    }

    /** It ends by reading the tape as rules, to see what bytes it has: ask nothing of the desk behind it. */
    static String of(MorningDesk desk) {
        Picture picture = new Picture(desk);
        picture.counts();
        picture.teachers();
        picture.gaps();
        picture.match();
        picture.strangers();
        picture.tape();
        return picture.seen.toString();
    }

    private void start(String what) {
        seen.append('\n').append(what).append(':');
    }

    private void add(long answer) {
        seen.append(' ').append(answer);
    }

    private void counts() {
        start("counts");
        for (int what = 0; what <= 6; what++) {
            add(desk.count(what));
        }
        numbers();
    }

    private void numbers() {
        start("rules");
        for (int what = 10; what <= 16; what++) {
            add(desk.count(what));
        }
    }

    private void teachers() {
        int many = desk.count(1);
        for (int t = 0; t < many; t++) {
            start("teacher " + t);
            for (int what = 0; what <= 8; what++) {
                add(desk.look(t, what));
            }
            for (int school = 0; school < 6; school++) {
                add(desk.look(t, WAYS + school));
            }
            add(desk.pay(t));
        }
    }

    private void gaps() {
        int many = desk.count(2);
        for (int g = 0; g < many; g++) {
            start("gap " + g);
            for (int what = 0; what <= 4; what++) {
                add(desk.about(g, what));
            }
            add(desk.who(g));
        }
    }

    private void match() {
        start("match, costs, next, hall");
        add(desk.match());
        add(desk.costs());
        add(desk.next());
        add(desk.hall());
    }

    private void strangers() {
        for (int school = 0; school < 6; school++) {
            start("strangers of school " + school);
            for (int klass = 0; klass < 16; klass++) {
                add(desk.strangers(school, klass));
            }
        }
    }

    private void tape() {
        start("the tape as rules");
        add(desk.rules(desk.count(5)));
        numbers();
    }
}
