import java.io.IOException;
import java.lang.reflect.Constructor;
import java.lang.reflect.Field;
import java.lang.reflect.Method;
import java.lang.reflect.Modifier;
import java.nio.file.Files;
import java.nio.file.Path;
import java.util.ArrayList;
import java.util.Arrays;
import java.util.List;
import java.util.Set;
import java.util.TreeSet;
import java.util.regex.Matcher;
import java.util.regex.Pattern;

/** The public face is the document's, and the source keeps to what can be seen of LANGUAGE.md's rules. */
public final class FaceTest {
    private static final Check CHECK = new Check("FaceTest");
    private static final String[] FACE = {
        "int text(int)", "int box(int, int)", "int step(int, int, int)", "int price(int, int)", "int bell(int)",
        "int is(int)", "int may(int)", "int open(int, int)", "int peep(int, boolean)", "int undo()", "int at(int)",
        "long mass()", "long number(int, int)", "int rule()", "long ruleMean()", "int best()", "long bestMean()",
        "long loss()", "int breach()", "long likely(int, int)", "int edge(int)", "int setPrice(int)",
        "long street(int)", "int bestStreet()", "long run(int, int)", "int image()", "int restore()",
        "int count(int)", "int keep(int, int, int)", "int row(int, int, int)", "int put(int, int, int)",
        "long element(int, int)", "int copy(int, int, int, int, int)", "int weight(int)", "int toss(int)"};
    private static final Set<String> MAY_CATCH = Set.of("IllegalStateException", "IllegalArgumentException",
        "UnsupportedOperationException", "NoSuchElementException");
    private static final Set<String> MAY_IMPORT = Set.of("java.util.Arrays", "java.util.ArrayList",
        "java.util.List", "java.util.Iterator", "java.util.NoSuchElementException");

    public static void main(String[] args) throws IOException {
        face();
        classes();
        source(Files.readString(Path.of(args.length > 0 ? args[0] : "src/main/java/BoxSearch.java")));
        CHECK.end();
    }

    private static String sign(Method m) {
        List<String> types = new ArrayList<>();
        for (Class<?> type : m.getParameterTypes()) {
            types.add(type.getName());
        }
        return m.getReturnType().getName() + " " + m.getName() + "(" + String.join(", ", types) + ")";
    }

    private static void face() {
        Set<String> want = new TreeSet<>(Arrays.asList(FACE));
        Set<String> found = new TreeSet<>();
        for (Method m : BoxSearch.class.getDeclaredMethods()) {
            if (Modifier.isPrivate(m.getModifiers())) {
                continue;
            }
            found.add(sign(m));
            CHECK.due(sign(m) + " is public, not static",
                Modifier.isPublic(m.getModifiers()) && !Modifier.isStatic(m.getModifiers()));
        }
        CHECK.due("the face " + found, found.equals(want));
        for (Method m : BoxSearch.class.getMethods()) {
            if (m.getDeclaringClass() == BoxSearch.class) {
                CHECK.due(m.getName() + " throws what the document names",
                    Arrays.toString(m.getExceptionTypes()).equals(thrown(m.getName())));
            }
        }
        Constructor<?>[] constructors = BoxSearch.class.getDeclaredConstructors();
        CHECK.due("one constructor", constructors.length, 1);
        CHECK.due("a public one", Modifier.isPublic(constructors[0].getModifiers()));
        CHECK.due("a final class", Modifier.isFinal(BoxSearch.class.getModifiers()));
        for (Field f : BoxSearch.class.getDeclaredFields()) {
            CHECK.due(f.getName() + " is private", Modifier.isPrivate(f.getModifiers()));
        }
    }

    private static String thrown(String name) {
        switch (name) {
            case "run": return "[class java.lang.IllegalArgumentException]";
            case "element":
                return "[class java.lang.IllegalArgumentException, class java.lang.IllegalStateException]";
            default: return "[]";
        }
    }

    private static void classes() {
        Set<String> names = new TreeSet<>();
        for (String line : FACE) {
            names.add(line.substring(line.indexOf(' ') + 1, line.indexOf('(')));
        }
        Class<?>[] inside = BoxSearch.class.getDeclaredClasses();
        CHECK.due("at most twelve classes", inside.length + 1 <= 12);
        one(BoxSearch.class, Set.of());
        for (Class<?> c : inside) {
            CHECK.due(c + " is static", Modifier.isStatic(c.getModifiers()));
            CHECK.due(c + " is not public", !Modifier.isPublic(c.getModifiers()));
            one(c, names);
        }
        for (Method m : BoxSearch.class.getDeclaredMethods()) {
            CHECK.due(m + " is no private one by a public name",
                !Modifier.isPrivate(m.getModifiers()) || !names.contains(m.getName()));
        }
    }

    private static void one(Class<?> c, Set<String> names) {
        int fields = 0;
        for (Field f : c.getDeclaredFields()) {
            boolean fixed = Modifier.isStatic(f.getModifiers());
            fields += fixed ? 0 : 1;
            CHECK.due(f + " is final, if static", !fixed || Modifier.isFinal(f.getModifiers()));
        }
        CHECK.due(c + " has at most twenty fields", fields <= 20);
        for (Method m : c.getDeclaredMethods()) {
            CHECK.due(m + " takes at most seven", m.getParameterCount() <= 7);
            CHECK.due(m + " has a name of its own", !names.contains(m.getName()));
        }
        for (Constructor<?> k : c.getDeclaredConstructors()) {
            CHECK.due(k + " takes at most seven", k.getParameterCount() <= 7);
        }
    }

    private static void source(String text) {
        String code = text.replaceAll("(?s)/\\*.*?\\*/", "").replaceAll("//[^\n]*", "");
        for (String word : new String[] {"Exact(", "->", "::", "finally", "synchronized", "assert ", "getMessage",
            "System.out", "System.nano", "System.current", "Random", "Thread", "static {", "package ", "hashCode",
            "toString", "double", "float"}) {
            CHECK.due("no '" + word + "'", !code.contains(word));
        }
        for (Matcher m = Pattern.compile("catch \\(([^)]*) \\w+\\)").matcher(code); m.find();) {
            CHECK.due("catches " + m.group(1), MAY_CATCH.contains(m.group(1)));
        }
        for (Matcher m = Pattern.compile("import ([\\w.]+);").matcher(code); m.find();) {
            CHECK.due("imports " + m.group(1), MAY_IMPORT.contains(m.group(1)));
        }
        for (Matcher m = Pattern.compile("throw (.*)").matcher(code); m.find();) {
            CHECK.due("throws " + m.group(1),
                m.group(1).matches("new Illegal(State|Argument)Exception\\(\"[ -~]*\"\\);"));
        }
        int start = 0;
        int line = 0;
        for (String s : text.split("\n")) {
            line++;
            CHECK.due("line " + line + " is plain", s.matches("[ -~]*"));
            if (s.matches("    (    )?[^ /*@}].*\\{")) {
                start = line;
            } else if (s.matches("    (    )?\\}")) {
                boolean isClass = s.equals("    }") && line - start > 60;
                CHECK.due("lines to " + line, isClass || line - start <= 60);
            }
        }
    }
}
