import java.lang.reflect.Constructor;
import java.lang.reflect.Field;
import java.lang.reflect.Method;
import java.lang.reflect.Modifier;
import java.nio.file.Files;
import java.nio.file.Path;
import java.util.Arrays;
import java.util.TreeSet;
import java.util.regex.Matcher;
import java.util.regex.Pattern;

/** The public face, and those rules of LANGUAGE.md that a look at the class or its text can tell. */
public final class FaceTest {
    private static final Check check = new Check();
    private static final String[] METHODS = {
        "int attribute(int)", "int add(int,int,int,int,int)", "int grow(int)", "int prune(int)",
        "int classify(int,int,int,int)", "int share(int)", "int wrong()", "long gain(int,int)",
        "long split(int,int)", "int cut(int,int)", "int cases()", "int nodes()", "int tested(int)",
        "int threshold(int)", "int child(int,int)", "int classOf(int)", "int weight(int,int)",
        "int part(int,int)", "int log(int)"};

    public static void main(String[] args) throws Exception {
        methods();
        constants();
        innerClasses();
        text(Files.readString(Path.of(System.getProperty("project", "."), "src/main/java/CaseTree.java")));
        check.end();
    }

    private static void methods() {
        check.part("methods");
        TreeSet<String> found = new TreeSet<>();
        TreeSet<String> names = new TreeSet<>();
        for (Method method : CaseTree.class.getDeclaredMethods()) {
            String types = Arrays.toString(Arrays.stream(method.getParameterTypes())
                    .map(Class::getName).toArray()).replace(" ", "").replace("[", "(").replace("]", ")");
            if (Modifier.isPublic(method.getModifiers())) {
                found.add(method.getReturnType().getName() + " " + method.getName() + types);
                names.add(method.getName());
                check.holds(method + " is not static", !Modifier.isStatic(method.getModifiers()));
            } else {
                check.holds(method + " is private", Modifier.isPrivate(method.getModifiers()));
            }
        }
        check.holds("public are " + found, found.equals(new TreeSet<>(Arrays.asList(METHODS))));
        for (Method method : CaseTree.class.getDeclaredMethods()) {
            check.holds(method + " bears a public name",
                    Modifier.isPublic(method.getModifiers()) || !names.contains(method.getName()));
        }
        check.holds("the class is public and final",
                Modifier.isPublic(CaseTree.class.getModifiers()) && Modifier.isFinal(CaseTree.class.getModifiers()));
        Constructor<?>[] constructors = CaseTree.class.getDeclaredConstructors();
        check.holds("one public constructor without parameters", constructors.length == 1
                && constructors[0].getParameterCount() == 0 && Modifier.isPublic(constructors[0].getModifiers()));
    }

    private static void constants() throws Exception {
        check.part("fields");
        check.due("BAD", CaseTree.BAD, -1);
        check.due("FULL", CaseTree.FULL, -2);
        check.due("NONE", CaseTree.NONE, -3);
        int open = 0;
        for (Field field : CaseTree.class.getDeclaredFields()) {
            int kind = field.getModifiers();
            open += Modifier.isPublic(kind) ? 1 : 0;
            check.holds(field + " is public or private", Modifier.isPublic(kind) || Modifier.isPrivate(kind));
            check.holds(field + " is final when static", !Modifier.isStatic(kind) || Modifier.isFinal(kind));
        }
        check.due("public fields", open, 3);
    }

    private static void innerClasses() {
        check.part("classes inside");
        Class<?>[] inside = CaseTree.class.getDeclaredClasses();
        check.holds("some twelve at most", inside.length <= 14);
        for (Class<?> one : inside) {
            int kind = one.getModifiers();
            check.holds(one + " is static", Modifier.isStatic(kind));
            check.holds(one + " is not public", !Modifier.isPublic(kind) && !Modifier.isProtected(kind));
            long fields = Arrays.stream(one.getDeclaredFields()).filter(f -> !Modifier.isStatic(f.getModifiers())).count();
            check.holds(one + " has some twenty fields at most", fields <= 24);
            for (Method method : one.getDeclaredMethods()) {
                check.holds(method + " has few parameters", method.getParameterCount() <= 7);
            }
        }
    }

    private static void text(String source) {
        check.part("text");
        String code = source.replaceAll("(?s)/\\*.*?\\*/", "").replaceAll("//[^\n]*", "");
        Matcher found = Pattern.compile("\\b(throw|throws|try|catch|synchronized|assert|package|native|volatile"
                + "|Random|Thread|Runtime|File)\\b|::|System\\.(?!arraycopy)|Exact\\("
                + "|import (?!java\\.util\\.(Arrays|ArrayList|List|Iterator);)").matcher(code);
        while (found.find()) {
            check.fail("the text has " + found.group());
        }
        int first = 0;
        String[] lines = code.split("\n");
        for (int i = 0; i < lines.length; i++) {
            check.holds("a lambda at line " + i,
                    !lines[i].contains("->") || lines[i].trim().matches("(case|default)\\b.*"));
            if (lines[i].matches("    (    )?(?!if|for|while|switch)[A-Za-z].*\\) \\{")) {
                first = i;
            }
            if (lines[i].matches("    (    )?\\}")) {
                check.holds("the method at line " + first + " has some sixty lines at most", i - first <= 70);
            }
        }
    }
}
