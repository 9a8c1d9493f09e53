import java.io.IOException;
import java.lang.reflect.Array;
import java.lang.reflect.Constructor;
import java.lang.reflect.Field;
import java.lang.reflect.Method;
import java.lang.reflect.Modifier;
import java.nio.file.Files;
import java.nio.file.Path;
import java.util.ArrayList;
import java.util.Arrays;
import java.util.Collections;
import java.util.IdentityHashMap;
import java.util.List;
import java.util.Set;
import java.util.TreeSet;
import java.util.regex.Matcher;
import java.util.regex.Pattern;

/** The rules of LANGUAGE.md that can be seen in the source or in the compiled class. */
public final class LanguageTests {
    private static final Set<String> FACE = Set.of("boolean land(int,int)",
            "boolean ground(int,int,int,int,int,int)", "boolean trees(int,int,int)", "boolean bend(int)",
            "boolean haze(int,int,int,int)", "int post(int,int,int,int,boolean,int)",
            "int sight(int,int,int,int)", "int block(int,int,boolean)", "int raise(int,int)",
            "int note(int,int,int)", "int strike(int)", "int years(int,int,int)", "int quarrel()",
            "int stood(int,int,int)", "int groups(int,int,int,int)", "int cuts(int,int,int,int)",
            "int join(int,int,int,int)", "int joined(int,int)", "int dig()", "boolean dug(int,boolean)",
            "int feed(int,int,int,int,int)", "int rules(int)", "int fault(int)", "int send(int,int,int,int,int)",
            "int heard(int,int,int)", "int sent(int)", "int way(int,int)", "boolean store(int,int)",
            "int supply(int)", "int supplied(int,int)", "int look(int,int)", "int count(int)");

    private LanguageTests() {
    }

    public static void main(String[] args) throws IOException {
        Due.part("language");
        String source = Files.readString(Path.of("src/main/java/FrontierDesk.java"));
        face();
        classes();
        words(bare(source));
        lengths(bare(source));
        room();
        Due.end();
    }

    private static String signature(Method m) {
        List<String> types = new ArrayList<>();
        for (Class<?> type : m.getParameterTypes()) {
            types.add(type.getSimpleName());
        }
        return m.getReturnType().getSimpleName() + " " + m.getName() + "(" + String.join(",", types) + ")";
    }

    private static void face() {
        Set<String> open = new TreeSet<>();
        Set<String> openNames = new TreeSet<>();
        Class<?> c = FrontierDesk.class;
        Due.is("public and final", c.getModifiers() & (Modifier.PUBLIC | Modifier.FINAL), Modifier.PUBLIC | Modifier.FINAL);
        for (Method m : c.getDeclaredMethods()) {
            if (!Modifier.isPrivate(m.getModifiers())) {
                open.add(signature(m));
                openNames.add(m.getName());
            }
        }
        Due.yes("the face's methods: " + open, open.equals(FACE));
        for (Constructor<?> made : c.getDeclaredConstructors()) {
            Due.is("one constructor without parameters", made.getParameterCount(), 0);
        }
        for (Field f : c.getDeclaredFields()) {
            Due.yes("field " + f.getName(), Modifier.isPrivate(f.getModifiers()) || f.getName().equals("NONE"));
        }
        List<Class<?>> all = new ArrayList<>(List.of(c));
        all.addAll(Arrays.asList(c.getDeclaredClasses()));
        for (Class<?> each : all) {
            for (Method m : each.getDeclaredMethods()) {
                Due.yes("name of " + each.getSimpleName() + "." + m.getName(),
                        each == c && Modifier.isPublic(m.getModifiers()) || !openNames.contains(m.getName()));
                Due.yes("parameters of " + m.getName(), m.getParameterCount() <= 7);
            }
        }
    }

    private static void classes() {
        Class<?>[] inside = FrontierDesk.class.getDeclaredClasses();
        Due.yes("some twelve classes", inside.length <= 12);
        for (Class<?> c : inside) {
            Due.yes(c.getSimpleName() + " is static", Modifier.isStatic(c.getModifiers()));
            Due.no(c.getSimpleName() + " is open", Modifier.isPublic(c.getModifiers()) || Modifier.isProtected(c.getModifiers()));
            int fields = 0;
            for (Field f : c.getDeclaredFields()) {
                if (Modifier.isStatic(f.getModifiers())) {
                    Due.yes("static " + f.getName() + " is final", Modifier.isFinal(f.getModifiers()));
                } else {
                    fields++;
                }
            }
            Due.yes(c.getSimpleName() + " has " + fields + " fields", fields <= 20);
        }
    }

    /** The source without its comments and texts, each line in its place. */
    private static String bare(String source) {
        String plain = source.replaceAll("//[^\n]*", "").replaceAll("\"(\\\\.|[^\"\\\\])*\"", "\"\"");
        Matcher m = Pattern.compile("/\\*.*?\\*/", Pattern.DOTALL).matcher(plain);
        return m.replaceAll(r -> r.group().replaceAll("[^\n]", ""));
    }

    private static void words(String bare) {
        for (String word : List.of("throw", "throws", "try", "catch", "finally", "synchronized", "assert", "volatile",
                "transient", "native", "package", "System", "Object", "Exception", "Thread", "Random", "var")) {
            Due.no("the word " + word, Pattern.compile("\\b" + word + "\\b").matcher(bare).find());
        }
        for (String sign : List.of("->", "::", "Exact(", "@")) {
            Due.no("the signs " + sign, bare.contains(sign));
        }
        Matcher imports = Pattern.compile("import ([^;]*);").matcher(bare);
        while (imports.find()) {
            Due.yes("import " + imports.group(1), imports.group(1).equals("java.util.Arrays"));
        }
        Matcher calls = Pattern.compile("\\b(Arrays|Math|Integer|Long)\\.(\\w+)").matcher(bare);
        Set<String> known = Set.of("fill", "max", "min", "abs", "bitCount", "numberOfTrailingZeros", "MAX_VALUE");
        while (calls.find()) {
            Due.yes("library " + calls.group(), known.contains(calls.group(2)));
        }
    }

    /** A method ends at the first line that closes at the indent at which it began. */
    private static void lengths(String bare) {
        String[] lines = bare.split("\n", -1);
        int began = 0;
        int methods = 0;
        String indent = null;
        for (int i = 0; i < lines.length; i++) {
            Matcher head = Pattern.compile("^( {4}| {8})[\\w\\[\\]].*\\) \\{$").matcher(lines[i]);
            if (indent == null && head.find() && !lines[i].trim().startsWith("}")) {
                began = i;
                indent = head.group(1);
            } else if (indent != null && lines[i].equals(indent + "}")) {
                Due.yes("method of " + (i - began + 1) + " lines at line " + (began + 1), i - began + 1 <= 60);
                indent = null;
                methods++;
            }
        }
        Due.yes("methods were found", methods > 100);
    }

    /** Calls make nothing (WildTests), so what an object takes is what its constructor makes. */
    private static void room() {
        Set<Object> made = Collections.newSetFromMap(new IdentityHashMap<>());
        int elements = elementsOf(new FrontierDesk(), made);
        Due.yes(made.size() + " objects and arrays", made.size() <= 120);
        Due.yes(elements + " fields and elements", elements > 1000 && elements <= 9000);
    }

    private static int elementsOf(Object of, Set<Object> made) {
        if (of == null || !made.add(of)) {
            return 0;
        }
        if (of.getClass().isArray()) {
            int elements = Array.getLength(of);
            for (int i = 0; of instanceof Object[] && i < Array.getLength(of); i++) {
                elements += elementsOf(Array.get(of, i), made);
            }
            return elements;
        }
        int elements = 0;
        for (Field f : of.getClass().getDeclaredFields()) {
            if (!Modifier.isStatic(f.getModifiers())) {
                elements += 1 + (f.getType().isPrimitive() ? 0 : elementsOf(valueOf(f, of), made));
            }
        }
        return elements;
    }

    private static Object valueOf(Field f, Object of) {
        try {
            f.setAccessible(true);
            return f.get(of);
        } catch (IllegalAccessException e) {
            Due.yes("field " + f.getName() + " can be read", false);
            return null;
        }
    }
}
