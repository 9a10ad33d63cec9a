import java.io.IOException;
import java.lang.reflect.Method;
import java.lang.reflect.Modifier;
import java.nio.file.Files;
import java.nio.file.Path;

/** README.md's example answers what it tells, and README.md has each call of the face. */
public final class ReadmeTest {
    private static final Due DUE = new Due();

    public static void main(String[] args) throws IOException {
        example();
        eachCallIsTold();
        DUE.end();
    }

    private static void example() throws IOException {
        MorningDesk desk = new MorningDesk();
        told("desk.teacher(0b11, 0b0001, 100);  // 0:", desk.teacher(0b11, 0b0001, 100), 0);
        told("desk.teacher(0b01, 0b0001, 100);  // 1:", desk.teacher(0b01, 0b0001, 100), 1);
        told("desk.way(ann, 2, 25);                       // true:", desk.way(0, 2, 25) ? 1 : 0, 1);
        told("desk.gap(2, 4, 1, 0, 5);          // 0:", desk.gap(2, 4, 1, 0, 5), 0);
        told("desk.cost(ann, gap);                        // 25\n", desk.cost(0, 0), 25);
        told("desk.cost(bob, gap);                        // 90:", desk.cost(1, 0), 90);
        told("desk.next();                                // 0:", desk.next(), 0);
        told("desk.answer(ann, 0);                        // true:", desk.answer(0, 0) ? 1 : 0, 1);
        told("desk.day();                                 // 1:", desk.day(), 1);
        told("desk.pay(ann);                              // 11500 pence:", desk.pay(0), 11500);
        told("desk.strangers(2, 4);                       // 1:", desk.strangers(2, 4), 1);
        told("desk.feed(0x7734353b, 0x72330000, 0, 0, 0); // 20:",
                desk.feed(0x7734353b, 0x72330000, 0, 0, 0), 20);
        told("desk.rules(6);                              // 0:", desk.rules(6), 0);
        DUE.is("w of the example", desk.count(10), 45);
        DUE.is("r of the example", desk.count(16), 3);
    }

    private static void told(String line, long got, long want) throws IOException {
        DUE.is("README.md has " + line, readme().contains(line), true);
        DUE.is(line, got, want);
    }

    private static void eachCallIsTold() throws IOException {
        for (Method method : MorningDesk.class.getDeclaredMethods()) {
            if (Modifier.isPublic(method.getModifiers())) {
                DUE.is("README.md tells " + method.getName(), readme().contains("`" + method.getName() + "("), true);
            }
        }
    }

    private static String readme() throws IOException {
        return Files.readString(Path.of("README.md"));
    }
}
