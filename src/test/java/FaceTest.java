import java.io.IOException;
import java.lang.management.ManagementFactory;
import java.lang.reflect.Field;
import java.lang.reflect.Member;
import java.lang.reflect.Method;
import java.lang.reflect.Modifier;
import java.nio.file.Files;
import java.nio.file.Path;
import java.util.Arrays;
import java.util.List;
import java.util.TreeSet;
import java.util.regex.Matcher;
import java.util.regex.Pattern;

/** The class's face, the rules of LANGUAGE.md that can be seen from outside, and the room that calls take. */
public final class FaceTest {
    private static final Path SOURCE = Path.of("src/main/java/TwoArmies.java");
    private static final List<String> FACE = List.of(
        "write 1", "erase 0", "fault 0", "parade 0", "mud 1", "figure 3", "army 2", "as 2", "pass 1", "order 3",
        "wind 1", "undo 0", "keep 1", "back 1", "behind 2", "first 1", "plot 3", "seen 2", "forget 0", "wound 0",
        "ordered 2", "inspected 2", "count 1");
    private static final List<String> CONSTANTS = List.of("NONE", "UNKNOWN", "OUTSIDE", "NOT", "FULL");
    private static final String FORBIDDEN =
        "\\b(throw|throws|try|catch|synchronized|assert|import|package|Object|var|protected)\\b"
        + "|->|::|@|Exact";

    private static final Checks c = new Checks();

    public static void main(String[] args) throws IOException {
        face();
        constants();
        source();
        room();
        c.finish();
    }

    private static boolean isSeenOutside(Member member) {
        return !Modifier.isPrivate(member.getModifiers()) && !member.isSynthetic();
    }

    private static void face() {
        c.part("face");
        c.due("modifiers", TwoArmies.class.getModifiers(), Modifier.PUBLIC | Modifier.FINAL);
        c.due("constructors", TwoArmies.class.getDeclaredConstructors().length, 1);
        TreeSet<String> seen = new TreeSet<>();
        for (Method method : TwoArmies.class.getDeclaredMethods()) {
            if (isSeenOutside(method)) {
                seen.add(method.getName() + " " + method.getParameterCount());
                c.due(method.getName(), method.getModifiers(), Modifier.PUBLIC);
                c.isTrue(method.getName() + " answers int", method.getReturnType() == int.class);
            }
        }
        c.isTrue("methods " + seen, seen.equals(new TreeSet<>(FACE)));
        TreeSet<String> names = new TreeSet<>();
        FACE.forEach(method -> names.add(method.split(" ")[0]));
        for (Class<?> inside : TwoArmies.class.getDeclaredClasses()) {
            c.isTrue(inside + " is static", Modifier.isStatic(inside.getModifiers()));
            for (Method method : inside.getDeclaredMethods()) {
                c.isTrue("no face name: " + method.getName(), !names.contains(method.getName()));
            }
            c.isTrue(inside + " has few fields", inside.getDeclaredFields().length <= 20);
        }
    }

    private static void constants() {
        c.part("constants");
        int shown = 0;
        for (Field field : TwoArmies.class.getDeclaredFields()) {
            if (isSeenOutside(field)) {
                shown++;
                c.isTrue(field.getName() + " is of the face", CONSTANTS.contains(field.getName()));
            }
            if (Modifier.isStatic(field.getModifiers())) {
                c.isTrue(field.getName() + " is final", Modifier.isFinal(field.getModifiers()));
            }
        }
        c.due("constants", shown, 5);
        int[] values = {TwoArmies.NONE, TwoArmies.UNKNOWN, TwoArmies.OUTSIDE, TwoArmies.NOT, TwoArmies.FULL};
        c.isTrue("their values", Arrays.equals(values, new int[] {-1, -2, -3, -4, -5}));
    }

    private static void source() throws IOException {
        c.part("language");
        String code = Files.readString(SOURCE).replaceAll("(?s)/\\*.*?\\*/", "").replaceAll("//[^\n]*", "");
        Matcher matcher = Pattern.compile(FORBIDDEN).matcher(code.replaceAll("\"[^\"\n]*\"", "\"\""));
        while (matcher.find()) {
            c.due("'" + matcher.group() + "' stands in the class", 1, 0);
        }
        c.isTrue("there is code", code.contains("class TwoArmies"));
        c.isTrue("all signs are plain", code.chars().allMatch(sign -> sign < 128));
        c.isTrue("at most twelve classes", code.split("\\bclass \\w+ \\{").length - 1 <= 12);
    }

    /** No call makes an object, so that a run needs no more room than a new object does. */
    private static void room() {
        c.part("room");
        com.sun.management.ThreadMXBean bean = (com.sun.management.ThreadMXBean) ManagementFactory.getThreadMXBean();
        TwoArmies x = Checks.told("hour 3;kneel 1 3;march 0 4");
        useAll(x);
        long thread = Thread.currentThread().getId();
        long before = bean.getThreadAllocatedBytes(thread);
        for (int i = 0; i < 1000; i++) {
            useAll(x);
        }
        long taken = bean.getThreadAllocatedBytes(thread) - before;
        c.isTrue("1000 rounds took " + taken + " bytes", taken < 100000);
    }

    private static void useAll(TwoArmies x) {
        x.write('r');
        x.fault();
        x.parade();
        x.erase();
        x.keep(0);
        x.order(0, 4, 3);
        x.pass(1);
        x.wind(1);
        x.undo();
        x.seen(0, 60);
        x.behind(99, 2);
        x.first(1);
        x.plot(0, 40, 1);
        x.wound();
        x.ordered(0, 0);
        x.inspected(60, 3);
        x.count(9);
        x.as(0, 1);
        x.forget();
        x.back(0);
    }
}
