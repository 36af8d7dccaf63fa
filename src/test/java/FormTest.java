import java.lang.reflect.Field;
import java.lang.reflect.Method;
import java.lang.reflect.Modifier;
import java.nio.file.Files;
import java.nio.file.Path;
import java.util.Arrays;
import java.util.Set;
import java.util.TreeSet;
import java.util.regex.Matcher;
import java.util.regex.Pattern;

/** The face of the class, the rules of ../shared/LANGUAGE.md that can be seen from outside, and its room. */
public final class FormTest {
    private static final Due DUE = new Due();
    private static final String FACE = "base(int,int,int) baseAt(int,int) clearText() corrected(int,int) count(int)"
        + " drop(int,int) enter() fault(int) loop(int,int,int) loops(int) openLoop(int,int) point(int,int)"
        + " pressureFor(int,int,int) raw(int,int) read(int,int,int,int,int) reading(int,int,int) set(int,int)"
        + " step(int) type(int) undo() worst(int) would(int,int,int)";

    private static void holds(String what, boolean holds) {
        DUE.is(what, holds ? 1 : 0, 1);
    }

    private static String face(Method method) {
        String parameters = Arrays.toString(Arrays.stream(method.getParameterTypes()).map(Class::getName).toArray());
        return method.getName() + "(" + parameters.substring(1, parameters.length() - 1).replace(" ", "") + ")";
    }

    private static void members() {
        Set<String> faces = new TreeSet<>();
        Set<String> names = new TreeSet<>();
        for (Method method : BaroRuns.class.getDeclaredMethods()) {
            if (Modifier.isPublic(method.getModifiers())) {
                faces.add(face(method));
                names.add(method.getName());
                holds(method + " returns int", method.getReturnType() == int.class);
            }
        }
        holds("the face is " + String.join(" ", faces), String.join(" ", faces).equals(FACE));
        for (Method method : BaroRuns.class.getDeclaredMethods()) {
            boolean isPublic = Modifier.isPublic(method.getModifiers());
            holds(method + " is private", isPublic || Modifier.isPrivate(method.getModifiers()));
            holds(method + " has a name of its own", isPublic || !names.contains(method.getName()));
        }
        holds("the class is final", Modifier.isFinal(BaroRuns.class.getModifiers()));
        DUE.is("constructors", BaroRuns.class.getDeclaredConstructors().length, 1);
        holds("the constructor is public",
            Modifier.isPublic(BaroRuns.class.getDeclaredConstructors()[0].getModifiers()));
        holds("at most twelve classes", BaroRuns.class.getDeclaredClasses().length < 12);
        fields(BaroRuns.class);
        for (Class<?> inside : BaroRuns.class.getDeclaredClasses()) {
            holds(inside + " is static", Modifier.isStatic(inside.getModifiers()));
            holds(inside + " is private or package-visible",
                !Modifier.isPublic(inside.getModifiers()) && !Modifier.isProtected(inside.getModifiers()));
            fields(inside);
            for (Method method : inside.getDeclaredMethods()) {
                boolean isPrivate = Modifier.isPrivate(method.getModifiers());
                holds(method + " has a name of its own", !isPrivate || !names.contains(method.getName()));
                holds(method + " takes at most seven", method.getParameterCount() <= 7);
            }
        }
    }

    private static void fields(Class<?> type) {
        int own = 0;
        int constants = 0;
        for (Field field : type.getDeclaredFields()) {
            int modifiers = field.getModifiers();
            holds(field + " is final, if static", !Modifier.isStatic(modifiers) || Modifier.isFinal(modifiers));
            own += Modifier.isStatic(modifiers) ? 0 : 1;
            if (type == BaroRuns.class) {
                constants += Modifier.isPublic(modifiers) ? 1 : 0;
                holds(field + " is public or private", Modifier.isPublic(modifiers) || Modifier.isPrivate(modifiers));
            }
        }
        holds("at most twenty fields in " + type, own <= 20);
        DUE.is("public fields of " + type, constants, type == BaroRuns.class ? 4 : 0);
    }

    /** Words that the rules shut out; the comments and the imports of the library are left aside. */
    private static void words() throws Exception {
        String source = Files.readString(Path.of(System.getProperty("main.source", "src/main/java/BaroRuns.java")));
        String code = source.replaceAll("(?s)/\\*.*?\\*/", "").replaceAll("//[^\n]*", "")
            .replaceAll("import java\\.util\\.(ArrayList|List|Arrays|Iterator);", "");
        Matcher shut = Pattern.compile("\\b(throw|throws|try|catch|finally|synchronized|assert|import|package"
            + "|protected|Object|Exception|Random|System\\.(?!arraycopy)\\w+)\\b|::|\\w+Exact\\b").matcher(code);
        while (shut.find()) {
            holds("no '" + shut.group() + "' in the source", false);
        }
        holds("no sign behind 127", code.chars().allMatch(c -> c < 128));
    }

    /** All calls live in one room of 7.3 million elements: a run must stay well below their bytes. */
    private static void room() {
        int[] used = new int[2];
        for (int round = 0; round < 2; round++) {
            var threads = (com.sun.management.ThreadMXBean) java.lang.management.ManagementFactory.getThreadMXBean();
            long before = threads.getThreadAllocatedBytes(Thread.currentThread().getId());
            run(new BaroRuns());
            used[round] = (int) (threads.getThreadAllocatedBytes(Thread.currentThread().getId()) - before);
        }
        holds("a run of calls takes little room, not " + used[1] + " bytes", used[1] < 4000000);
    }

    private static void run(BaroRuns x) {
        x.base(0, 100000, 100);
        x.base(1000, 100000, 100);
        for (int i = 0; i < 20; i++) {
            x.read(i % 3, i % 4, 10 * i, 98000 + i, i);
        }
        for (char c : new char[] {'b', 't', '5', 'p', '9', '9', '0', '0', '0', 'c', '5', ';'}) {
            x.type(c);
        }
        for (int i = 0; i < 20; i++) {
            x.enter();
            x.undo();
            x.set(0, i);
            x.count(7);
            x.worst(0);
            x.point(1, 1);
            x.corrected(1, 1);
            x.pressureFor(7, 7, 700);
            x.fault(0);
            x.drop(0, 0);
            x.undo();
            x.clearText();
        }
    }

    public static void main(String[] args) throws Exception {
        members();
        words();
        room();
        DUE.end();
    }
}
