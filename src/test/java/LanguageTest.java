import java.io.IOException;
import java.lang.management.ManagementFactory;
import java.lang.reflect.Constructor;
import java.lang.reflect.Field;
import java.lang.reflect.Method;
import java.lang.reflect.Modifier;
import java.nio.file.Files;
import java.nio.file.Path;
import java.util.Set;
import java.util.TreeSet;
import java.util.regex.Pattern;

/** Rules of LANGUAGE.md that a program can look at; run from the project's folder. */
public final class LanguageTest {
    private static final Path SOURCE = Path.of("src/main/java/ClaimTriangle.java");

    private static final int ROUNDS = 1000;

    private static final String[] FACE = {
        "int pay(int, int, int, int) BS", "int estimate(int, int, int, int) BS", "int strike(int) BS",
        "void move(int, int, int) BS", "void premium(int, int, int) B", "void ratio(int, int, int) B",
        "void build(int, int, boolean, int) B", "int cell(int, int) B", "int leave(int, int, boolean) B",
        "void latest(int) B", "int hide(int) B", "long factor(int, int, boolean) BAU",
        "long ultimate(int, int, boolean) BAU", "long reserve(int, int, boolean) BAU",
        "long rounded(int, int) BAU", "long total(int, boolean) BAU", "int marks(int) B",
        "long deviation(int, boolean) BAU", "long error(int, int, boolean) BAU", "int diagonal(int) B",
        "int count(int) B",
    };

    private static final String[] RULED_OUT = {
        "\\bimport\\b", "\\bpackage\\b", "->", "::", "\\bsynchronized\\b", "\\bassert\\b", "\\bfinally\\b",
        "\\btry\\b", "\\bcatch\\b", "\\w+Exact\\b", "\\bSystem\\b", "\\bdouble\\b", "\\bfloat\\b",
        "\\bvar\\b", "\\bObject\\b", "\\btoString\\b", "\\bhashCode\\b", "\\bequals\\b", "static \\{",
    };

    public static void main(String[] args) throws IOException {
        face();
        hiddenMembers();
        source();
        callsMakeNoObjects();
        Checks.end();
    }

    private static void face() {
        Set<String> due = new TreeSet<>(Set.of(FACE));
        Set<String> got = new TreeSet<>();
        for (Method method : ClaimTriangle.class.getDeclaredMethods()) {
            if (!Modifier.isPrivate(method.getModifiers())) {
                Checks.same("rule 1: " + method, Modifier.PUBLIC, method.getModifiers());
                got.add(written(method));
            }
        }
        Checks.same("rule 1: the face", due, got);
        Checks.same("rule 1: the class", Modifier.PUBLIC | Modifier.FINAL, ClaimTriangle.class.getModifiers());
        Constructor<?>[] constructors = ClaimTriangle.class.getDeclaredConstructors();
        Checks.same("rule 1: one constructor", 1, constructors.length);
        Checks.same("rule 1: it is public", Modifier.PUBLIC, constructors[0].getModifiers());
        Checks.same("rule 1: it takes nothing", 0, constructors[0].getParameterCount());
    }

    private static String written(Method method) {
        StringBuilder text = new StringBuilder();
        text.append(method.getReturnType()).append(' ').append(method.getName()).append('(');
        for (Class<?> type : method.getParameterTypes()) {
            text.append(text.charAt(text.length() - 1) == '(' ? "" : ", ").append(type);
        }
        text.append(") ");
        for (Class<?> type : method.getExceptionTypes()) {
            String name = type.getSimpleName();
            text.append(name.equals(Checks.BAD) ? 'B' : name.charAt(0) == 'I' ? 'S' : name.charAt(0));
        }
        return text.toString();
    }

    private static void hiddenMembers() {
        Set<String> names = new TreeSet<>();
        for (String line : FACE) {
            names.add(line.substring(line.indexOf(' ') + 1, line.indexOf('(')));
        }
        privateFields(ClaimTriangle.class);
        for (Method method : ClaimTriangle.class.getDeclaredMethods()) {
            boolean bears = Modifier.isPrivate(method.getModifiers()) && names.contains(method.getName());
            Checks.same("rule 1: " + method + " bears a public name", false, bears);
        }
        Checks.same("rule 11: classes", true, ClaimTriangle.class.getDeclaredClasses().length < 12);
        for (Class<?> inside : ClaimTriangle.class.getDeclaredClasses()) {
            int marks = inside.getModifiers();
            Checks.same("rule 1: " + inside, true, Modifier.isPrivate(marks) && Modifier.isStatic(marks));
            privateFields(inside);
            for (Method method : inside.getDeclaredMethods()) {
                Checks.same("rule 11: parameters of " + method, true, method.getParameterCount() <= 7);
                Checks.same("rule 1: " + method, false, names.contains(method.getName()));
            }
        }
    }

    private static void privateFields(Class<?> owner) {
        int own = 0;
        for (Field field : owner.getDeclaredFields()) {
            int marks = field.getModifiers();
            Checks.same("rule 1: " + field, true, Modifier.isPrivate(marks));
            Checks.same("rule 5: " + field, true, !Modifier.isStatic(marks) || Modifier.isFinal(marks));
            own += Modifier.isStatic(marks) ? 0 : 1;
        }
        Checks.same("rule 11: fields of " + owner, true, own <= 20);
    }

    private static void source() throws IOException {
        String text = Files.readString(SOURCE).replaceAll("(?s)/\\*.*?\\*/", "").replaceAll("//.*", "");
        for (String word : RULED_OUT) {
            Checks.same("a word ruled out: " + word, false, Pattern.compile(word).matcher(text).find());
        }
        String written = "throw new (IllegalStateException|IllegalArgumentException|ArithmeticException"
                + "|UnsupportedOperationException)\\(\"[^\"]*\"\\);";
        Checks.same("rule 6: other throws", false, text.replaceAll(written, "").contains("throw new"));
        boolean plain = text.chars().allMatch(letter -> letter < 256);
        Checks.same("rule 3: characters 0 to 255", true, plain);
    }

    private static void callsMakeNoObjects() {
        ClaimTriangle x = new ClaimTriangle();
        for (int entry = 0; entry < 60; entry++) {
            if (entry % 3 == 0) {
                x.estimate(0, entry % 6, 6 + entry % 5, 1 + entry);
            } else {
                x.pay(0, entry % 6, entry % 6 + entry % 4, 1 + entry);
            }
        }
        askEverything(x);
        long before = allocated();
        for (int round = 0; round < ROUNDS; round++) {
            askEverything(x);
        }
        // To ask makes a few objects itself; one object a round would be sixteen bytes or more.
        Checks.same("rule 12: no object a round", true, allocated() - before < ROUNDS * 16);
    }

    private static long askEverything(ClaimTriangle x) {
        long sum = 0;
        x.build(0, 2, true, 4);
        x.premium(0, 3, 4000);
        x.ratio(0, 3, 4);
        x.ratio(-1, 5, 4);
        x.latest(2);
        x.move(7, 2, 5);
        for (int hidden = 1; hidden >= 0; hidden--) {
            sum += x.hide(hidden) + x.leave(0, 0, hidden == 1) + x.cell(1, 1) + x.diagonal(2) + x.count(4);
            for (int method = 0; method < 4; method++) {
                sum += x.ultimate(method, 2, true) + x.reserve(method, 2, false) + x.rounded(method, 2);
                sum += x.total(method, true) + x.marks(method);
            }
            sum += x.factor(0, 0, true) + x.factor(1, 1, false) + x.error(1, 2, true);
        }
        return sum + x.deviation(1, false);
    }

    private static long allocated() {
        return ((com.sun.management.ThreadMXBean) ManagementFactory.getThreadMXBean())
                .getThreadAllocatedBytes(Thread.currentThread().getId());
    }
}
