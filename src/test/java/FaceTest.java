import java.io.IOException;
import java.lang.reflect.Constructor;
import java.lang.reflect.Executable;
import java.lang.reflect.Field;
import java.lang.reflect.Method;
import java.lang.reflect.Modifier;
import java.nio.file.Files;
import java.nio.file.Path;
import java.util.Set;
import java.util.TreeSet;
import java.util.regex.Matcher;
import java.util.regex.Pattern;

/** The class has the document's face and no other, and keeps to what LANGUAGE.md rules out by the letter. */
public final class FaceTest {
    private static final Path SOURCE = Path.of("src/main/java/WallFractions.java");
    private static final Path DOCUMENT = Path.of("../shared/DOC.md");
    private static final String[] RULED_OUT = {
        "\\bimport\\b", "\\bpackage\\b", "\\btry\\b", "\\bcatch\\b", "\\bfinally\\b", "\\bsynchronized\\b",
        "\\bassert\\b", "->", "::", "static \\{", "Exact\\b", "BigInteger", "BigDecimal", "\\bObject\\b",
        "\\bfloat\\b", "\\bdouble\\b", "currentTimeMillis", "nanoTime", "random", "native", "volatile"
    };

    private FaceTest() {
    }

    public static void main(String[] args) throws IOException {
        face();
        members();
        rows();
        letters();
        Hand.end();
    }

    /** The calls in the document's own words: "public void set(int r, ..) throws ..". */
    private static void face() throws IOException {
        Set<String> wants = new TreeSet<>();
        String text = Files.readString(DOCUMENT);
        Matcher calls = Pattern.compile("public (\\w+ )?(\\w+)\\(([^)]*)\\)( throws [^;]*)?;").matcher(text);
        while (calls.find()) {
            String answer = calls.group(1) == null ? "" : calls.group(1);
            String thrown = calls.group(4) == null ? "" : calls.group(4);
            String types = calls.group(3).replaceAll("(\\w+) \\w+", "$1");
            wants.add(answer + calls.group(2) + "(" + types + ")" + thrown);
        }
        Set<String> got = new TreeSet<>();
        for (Method method : WallFractions.class.getDeclaredMethods()) {
            if (!Modifier.isPrivate(method.getModifiers())) {
                got.add(method.getReturnType() + " " + method.getName() + signature(method));
            }
        }
        for (Constructor<?> constructor : WallFractions.class.getDeclaredConstructors()) {
            got.add("WallFractions" + signature(constructor));
        }
        Hand.due("calls of the document", wants.size(), 19);
        Hand.due("face", got, wants);
    }

    private static String signature(Executable call) {
        StringBuilder text = new StringBuilder("(");
        for (Class<?> type : call.getParameterTypes()) {
            text.append(text.length() > 1 ? ", " : "").append(type.getSimpleName());
        }
        text.append(")");
        String before = " throws ";
        for (Class<?> type : call.getExceptionTypes()) {
            text.append(before).append(type.getSimpleName());
            before = ", ";
        }
        return text.toString();
    }

    private static void members() {
        Hand.due("public and final", WallFractions.class.getModifiers(), Modifier.PUBLIC | Modifier.FINAL);
        Set<String> open = new TreeSet<>();
        for (Method method : WallFractions.class.getDeclaredMethods()) {
            if (!Modifier.isPrivate(method.getModifiers())) {
                Hand.due(method + " is public", Modifier.isPublic(method.getModifiers()), true);
                open.add(method.getName());
            }
        }
        for (Field field : WallFractions.class.getDeclaredFields()) {
            Hand.due(field + " is private", Modifier.isPrivate(field.getModifiers()), true);
        }
        hidden(WallFractions.class, open);
        Hand.due("few classes", WallFractions.class.getDeclaredClasses().length < 12, true);
        for (Class<?> inside : WallFractions.class.getDeclaredClasses()) {
            Hand.due(inside + " is static", Modifier.isStatic(inside.getModifiers()), true);
            hidden(inside, open);
        }
    }

    private static void hidden(Class<?> type, Set<String> open) {
        int fields = 0;
        for (Method method : type.getDeclaredMethods()) {
            boolean taken = !Modifier.isPublic(method.getModifiers()) && open.contains(method.getName());
            Hand.due(method + " bears a public name", taken, false);
            Hand.due(method + " has few parameters", method.getParameterCount() <= 7, true);
        }
        for (Field field : type.getDeclaredFields()) {
            boolean fixed = Modifier.isStatic(field.getModifiers());
            Hand.due(field + " is no static state", fixed && !Modifier.isFinal(field.getModifiers()), false);
            fields += fixed ? 0 : 1;
        }
        Hand.due(type + " has few fields", fields <= 20, true);
    }

    /** All rows are made in the constructor: the dearest calls make no object at all. */
    private static void rows() {
        WallFractions[] objects = new WallFractions[30];
        for (int i = 0; i < objects.length; i++) {
            objects[i] = loaded();
            dearest(objects[i]);
        }
        com.sun.management.ThreadMXBean threads =
            (com.sun.management.ThreadMXBean) java.lang.management.ManagementFactory.getThreadMXBean();
        long before = threads.getCurrentThreadAllocatedBytes();
        for (WallFractions x : objects) {
            for (int i = 0; i < 25; i++) {
                dearest(x);
            }
        }
        long bytes = threads.getCurrentThreadAllocatedBytes() - before;
        Hand.due("750 rounds of calls make few objects: " + bytes + " bytes", bytes < 50_000, true);
    }

    /** Register 0 is (10^180 - 1) / 7^200, and 1 is 10^80 / 77^40. */
    private static WallFractions loaded() {
        WallFractions x = new WallFractions();
        for (int i = 0; i < 20; i++) {
            x.more(0, 999_999_999);
        }
        x.set(1, 7, 1);
        x.power(1, 1, 200);
        x.divide(0, 0, 1);
        x.set(1, 100, 77);
        x.power(1, 1, 40);
        return x;
    }

    private static void dearest(WallFractions x) {
        x.multiply(2, 1, 1);
        x.divide(3, 2, 1);
        x.subtract(4, 2, 1);
        x.root(5, 0, 40);
        x.round(6, 1, 40, 1);
        x.power(7, 1, 1);
        x.binomial(8, 500, 250);
        x.weight(3, 1_000_000_000);
        x.share(9, 8, 3);
        x.compare(0, 1);
        x.behind(1, 300);
        x.modulo(1, 1, 999_999_937);
        x.digit(1, 1, x.digits(1, 1) - 1);
    }

    private static void letters() throws IOException {
        String code = Files.readString(SOURCE).replaceAll("(?s)/\\*.*?\\*/", "").replaceAll("//[^\n]*", "");
        for (String pattern : RULED_OUT) {
            Matcher found = Pattern.compile(pattern).matcher(code);
            Hand.due("the source has " + pattern, found.find(), false);
        }
        Matcher thrown = Pattern.compile("throw (?!new (IllegalState|IllegalArgument|IndexOutOfBounds|Arithmetic)"
            + "Exception\\(\"[^\"]*\"\\);)").matcher(code);
        Hand.due("a throw of another form", thrown.find(), false);
    }
}
