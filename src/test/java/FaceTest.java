import java.io.IOException;
import java.lang.reflect.Constructor;
import java.lang.reflect.Field;
import java.lang.reflect.Method;
import java.lang.reflect.Modifier;
import java.nio.file.Files;
import java.nio.file.Path;
import java.util.Arrays;
import java.util.List;
import java.util.Set;
import java.util.TreeSet;

/** The document's face, no more and no less, and the rules of LANGUAGE.md that can be seen from outside. */
public final class FaceTest {
    private static final Due DUE = new Due();
    private static final List<String> FACE = List.of(
            "int about(int,int)", "boolean answer(int,int)", "int can(int,int)", "int cost(int,int)", "int costs()",
            "int count(int)", "int day()", "int feed(int,int,int,int,int)", "int gap(int,int,int,int,int)",
            "int hall()", "boolean likes(int,int,int)", "int look(int,int)", "int match()", "int next()",
            "long pay(int)", "int rules(int)", "int strangers(int,int)", "int teacher(int,int,int)",
            "boolean way(int,int,int)", "int who(int)");

    public static void main(String[] args) throws IOException {
        methods();
        members();
        source();
        DUE.end();
    }

    private static String shapeOf(Method method) {
        StringBuilder shape = new StringBuilder(method.getReturnType() + " " + method.getName() + "(");
        for (Class<?> type : method.getParameterTypes()) {
            shape.append(shape.toString().endsWith("(") ? "" : ",").append(type);
        }
        return shape.append(")").toString();
    }

    private static void methods() {
        Set<String> shown = new TreeSet<>();
        Set<String> names = new TreeSet<>();
        for (Method method : MorningDesk.class.getDeclaredMethods()) {
            if (!Modifier.isPrivate(method.getModifiers())) {
                DUE.is(method + " is public", Modifier.isPublic(method.getModifiers()), true);
                shown.add(shapeOf(method));
                names.add(method.getName());
            }
        }
        DUE.is("the face is " + shown, shown.equals(new TreeSet<>(FACE)), true);
        for (Method method : MorningDesk.class.getDeclaredMethods()) {
            boolean hidden = Modifier.isPrivate(method.getModifiers());
            DUE.is(method + " has a name of its own", hidden && names.contains(method.getName()), false);
        }
    }

    private static void members() {
        DUE.is("a final class", Modifier.isFinal(MorningDesk.class.getModifiers()), true);
        for (Field field : MorningDesk.class.getDeclaredFields()) {
            boolean isNone = field.getName().equals("NONE");
            DUE.is(field + " is shown", Modifier.isPublic(field.getModifiers()), isNone);
            DUE.is(field + " is hidden", Modifier.isPrivate(field.getModifiers()), !isNone);
            staticIsFinal(field);
        }
        Constructor<?>[] made = MorningDesk.class.getDeclaredConstructors();
        DUE.is("constructors", made.length, 1);
        DUE.is("the constructor is public", Modifier.isPublic(made[0].getModifiers()), true);
        for (Class<?> inside : MorningDesk.class.getDeclaredClasses()) {
            DUE.is(inside + " is static", Modifier.isStatic(inside.getModifiers()), true);
            DUE.is(inside + " is private", Modifier.isPrivate(inside.getModifiers()), true);
            Arrays.stream(inside.getDeclaredFields()).forEach(FaceTest::staticIsFinal);
        }
    }

    private static void staticIsFinal(Field field) {
        int how = field.getModifiers();
        DUE.is(field + " is no static state", Modifier.isStatic(how) && !Modifier.isFinal(how), false);
    }

    private static void source() throws IOException {
        String text = Files.readString(Path.of("src/main/java/MorningDesk.java"));
        String code = text.replaceAll("(?s)/\\*.*?\\*/", "").replaceAll("//.*", "");
        for (String word : List.of("throw", "throws", "try", "catch", "synchronized", "assert", "package", "->", "::",
                "Exact", "java.io", "Random", "System.out", "System.currentTimeMillis", "System.nanoTime")) {
            DUE.is("the source has " + word, code.matches("(?s).*(?<!\\w)" + word + "(?!\\w).*"), false);
        }
        for (String line : code.split("\n")) {
            DUE.is(line, line.startsWith("import ") && !line.equals("import java.util.Arrays;"), false);
        }
    }
}
