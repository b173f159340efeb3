import java.io.IOException;
import java.lang.management.ManagementFactory;
import java.lang.reflect.Constructor;
import java.lang.reflect.Field;
import java.lang.reflect.Member;
import java.lang.reflect.Method;
import java.lang.reflect.Modifier;
import java.nio.file.Files;
import java.nio.file.Path;
import java.util.TreeSet;
import java.util.regex.Matcher;
import java.util.regex.Pattern;

/** The class's face as the document writes it, and the room that calls take. */
public final class FaceTest {
    private static final Path SOURCE = Path.of("src/main/java/TwoArmies.java");
    private static final Path DOCUMENT = Path.of("../shared/DOC.md");
    private static final Pattern FACE = Pattern.compile("```java\n(.*?)```", Pattern.DOTALL);
    private static final Pattern METHOD = Pattern.compile("public int (\\w+)\\(([^)]*)\\);");
    private static final Pattern CONSTANT = Pattern.compile("([A-Z]+) = (-?\\d+)");

    private static final Checks c = new Checks();

    public static void main(String[] args) throws IOException, ReflectiveOperationException {
        Matcher face = FACE.matcher(Files.readString(DOCUMENT));
        c.isTrue("the document has a face", face.find());
        methods(face.group(1));
        constants(face.group(1));
        words(face.group(1), Files.readString(SOURCE));
        room();
        c.finish();
    }

    private static boolean isSeenOutside(Member member) {
        return !Modifier.isPrivate(member.getModifiers()) && !member.isSynthetic();
    }

    private static void methods(String face) throws NoSuchMethodException {
        c.part("methods");
        c.due("the class", TwoArmies.class.getModifiers(), Modifier.PUBLIC | Modifier.FINAL);
        c.due("constructors", TwoArmies.class.getDeclaredConstructors().length, 1);
        Constructor<?> made = TwoArmies.class.getDeclaredConstructor();
        c.due("the constructor", made.getModifiers(), Modifier.PUBLIC);
        TreeSet<String> due = new TreeSet<>();
        Matcher method = METHOD.matcher(face);
        while (method.find()) {
            due.add(method.group(1) + " " + (method.group(2).isEmpty() ? 0 : method.group(2).split(",").length));
        }
        TreeSet<String> there = new TreeSet<>();
        for (Method seen : TwoArmies.class.getDeclaredMethods()) {
            if (isSeenOutside(seen)) {
                there.add(seen.getName() + " " + seen.getParameterCount());
                c.due(seen.getName(), seen.getModifiers(), Modifier.PUBLIC);
                c.isTrue(seen.getName() + " answers int", seen.getReturnType() == int.class);
                for (Class<?> type : seen.getParameterTypes()) {
                    c.isTrue(seen.getName() + " takes int", type == int.class);
                }
            }
        }
        c.due("calls of the document", due.size(), 23);
        c.isTrue(due + " are there: " + there, due.equals(there));
    }

    private static void constants(String face) throws ReflectiveOperationException {
        c.part("constants");
        TreeSet<String> due = new TreeSet<>();
        Matcher constant = CONSTANT.matcher(face);
        while (constant.find()) {
            due.add(constant.group(1) + " " + constant.group(2));
        }
        TreeSet<String> there = new TreeSet<>();
        for (Field field : TwoArmies.class.getDeclaredFields()) {
            if (isSeenOutside(field)) {
                there.add(field.getName() + " " + field.getInt(null));
                c.due(field.getName(), field.getModifiers(), Modifier.PUBLIC | Modifier.STATIC | Modifier.FINAL);
            }
        }
        c.due("constants of the document", due.size(), 5);
        c.isTrue(due + " are there: " + there, due.equals(there));
    }

    /** The class says its face in the document's own words, the names of what a call takes too. */
    private static void words(String face, String source) {
        c.part("words");
        for (String line : face.split("\n")) {
            String words = line.strip().replaceAll("\\);$", ")");
            if (words.startsWith("public")) {
                c.isTrue("'" + words + "' stands in the class", source.contains(words));
            }
        }
    }

    /** No call makes an object, so that a run needs no more room than a new object does. */
    private static void room() {
        c.part("room");
        com.sun.management.ThreadMXBean bean = (com.sun.management.ThreadMXBean) ManagementFactory.getThreadMXBean();
        TwoArmies x = Checks.told("hour 3;kneel 1 3;march 0 4");
        useAll(x);
        long thread = Thread.currentThread().getId();
        long before = bean.getThreadAllocatedBytes(thread);
        for (int i = 0; i < 1000; i++) {
            useAll(x);
        }
        long taken = bean.getThreadAllocatedBytes(thread) - before;
        c.isTrue("1000 rounds took " + taken + " bytes", taken < 100000);
    }

    private static void useAll(TwoArmies x) {
        x.write('r');
        x.fault();
        x.parade();
        x.erase();
        x.keep(0);
        x.order(0, 4, 3);
        x.pass(1);
        x.wind(1);
        x.undo();
        x.seen(0, 60);
        x.behind(99, 2);
        x.first(1);
        x.plot(0, 40, 1);
        x.wound();
        x.ordered(0, 0);
        x.inspected(60, 3);
        x.mud(0);
        x.figure(0, 0, 1);
        x.army(0, 1);
        x.count(9);
        x.as(0, 1);
        x.forget();
        x.back(0);
    }
}
