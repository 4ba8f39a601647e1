import java.io.IOException;
import java.lang.reflect.Field;
import java.lang.reflect.Method;
import java.lang.reflect.Modifier;
import java.nio.charset.StandardCharsets;
import java.nio.file.Files;
import java.nio.file.Path;
import java.util.Arrays;
import java.util.Set;
import java.util.TreeSet;
import java.util.regex.Matcher;
import java.util.regex.Pattern;
import java.util.stream.Collectors;
import java.util.stream.Stream;

/** The public face as the document tells it, and rules of LANGUAGE.md that can be looked at. */
final class FaceTest {
    private static final String[] FACE = {
        "int feed(int, int, int, int, int)", "boolean end(int)", "int fault(int)", "int text(int)", "int rule(int)",
        "int tome(int, int)", "int house(int, int)", "int bored(int)", "boolean law(int)", "boolean hush(int)",
        "int read(int, int, boolean)", "int milk()", "int goes(int)", "int voice(int, int)", "int night()",
        "int years(int, long)", "int undo()", "int log(int, int)", "int step(int, int, int)", "int run(int, int)",
        "int perform(int)", "int calms(int, int)", "int least(int)", "int best(int, int)", "int roster(int, int)",
        "int seen(int, int, int, int, boolean)", "int likes(int)", "int probe(int, int)", "int which(int, int)",
        "int game(int, int, int, int, int, int)", "int rests(int, int, int, int)", "int odds(int, int)",
        "int lasts(int)", "int quiet()", "int all(int)", "int pages(int)", "int left(int)", "int image()",
        "int back()", "int count(int)"};

    /** The line at which a method or a constructor begins. */
    private static final String METHOD = " {4}(?: {4})?(?! |if |for |while |switch )[\\w\\[\\] ]+\\(.*\\{";

    private final Due due = new Due();

    public static void main(String[] args) throws IOException {
        FaceTest test = new FaceTest();
        test.face();
        test.classesInside();
        test.namesInside();
        test.staticFields();
        test.source();
        test.newObjects();
        test.due.end();
    }

    private void holds(String what, boolean so) {
        due.is(what, so, true);
    }

    private static String told(Method m) {
        String types = Arrays.stream(m.getParameterTypes()).map(Class::getName).collect(Collectors.joining(", "));
        return m.getReturnType().getName() + " " + m.getName() + "(" + types + ")";
    }

    private void face() {
        due.part("the public face");
        holds("public and final", MonsterCot.class.getModifiers() == (Modifier.PUBLIC | Modifier.FINAL));
        due.is("constructors", MonsterCot.class.getDeclaredConstructors().length, 1);
        Set<String> open = new TreeSet<>();
        Set<String> names = new TreeSet<>();
        for (Method m : MonsterCot.class.getDeclaredMethods()) {
            if (Modifier.isPublic(m.getModifiers())) {
                open.add(told(m));
                names.add(m.getName());
            } else {
                holds(m + " is private", Modifier.isPrivate(m.getModifiers()));
            }
        }
        for (String method : FACE) {
            holds(method, open.contains(method));
        }
        due.is("public methods", open.size(), FACE.length);
        for (Method m : MonsterCot.class.getDeclaredMethods()) {
            holds(m + " has a name of its own", Modifier.isPublic(m.getModifiers()) || !names.contains(m.getName()));
        }
        for (Field f : MonsterCot.class.getDeclaredFields()) {
            boolean constant = f.getName().equals("NONE") || f.getName().equals("HIDDEN");
            holds(f + " is private or told", constant ? Modifier.isPublic(f.getModifiers())
                    : Modifier.isPrivate(f.getModifiers()));
        }
        due.is("NONE", MonsterCot.NONE, -1);
        due.is("HIDDEN", MonsterCot.HIDDEN, -1000000);
    }

    private void classesInside() {
        due.part("classes inside");
        holds("at most twelve", MonsterCot.class.getDeclaredClasses().length + 1 <= 12);
        for (Class<?> inside : MonsterCot.class.getDeclaredClasses()) {
            holds(inside + " is static", Modifier.isStatic(inside.getModifiers()));
            holds(inside + " is not open", !Modifier.isPublic(inside.getModifiers()));
            int fields = 0;
            for (Field f : inside.getDeclaredFields()) {
                fields += Modifier.isStatic(f.getModifiers()) ? 0 : 1;
                holds(f + " is no static state", !Modifier.isStatic(f.getModifiers())
                        || Modifier.isFinal(f.getModifiers()));
            }
            holds(inside + " has at most twenty fields", fields <= 20);
            for (Method m : inside.getDeclaredMethods()) {
                holds(m + " takes seven at most", m.getParameterCount() <= 7);
            }
        }
    }

    private void namesInside() {
        due.part("names inside");
        Set<String> open = Arrays.stream(MonsterCot.class.getMethods()).map(Method::getName)
                .collect(Collectors.toSet());
        for (Class<?> inside : MonsterCot.class.getDeclaredClasses()) {
            for (Method m : inside.getDeclaredMethods()) {
                holds(m + " has a name of its own", !open.contains(m.getName()));
            }
        }
    }

    private void staticFields() {
        due.part("static fields");
        Set<Class<?>> allowed = Set.of(int.class, long.class, boolean.class, char.class, String.class, int[].class,
                long[].class, char[].class, byte[].class);
        Stream<Class<?>> all = Stream.concat(Stream.of(MonsterCot.class),
                Arrays.stream(MonsterCot.class.getDeclaredClasses()));
        all.flatMap(one -> Arrays.stream(one.getDeclaredFields())).filter(f -> Modifier.isStatic(f.getModifiers()))
                .forEach(f -> holds(f + " is a constant", Modifier.isFinal(f.getModifiers())
                        && allowed.contains(f.getType())));
    }

    private static String wholeSource() throws IOException {
        return Files.readString(Path.of("src/main/java/MonsterCot.java"), StandardCharsets.ISO_8859_1);
    }

    /** Without comments and what stands in texts. */
    private static String code() throws IOException {
        return wholeSource().replaceAll("(?s)/\\*.*?\\*/", "").replaceAll("//[^\n]*", "")
                .replaceAll("\"[^\"\n]*\"", "\"\"");
    }

    /** All calls of a run live in one room, so nothing is made but in constructors (and what house throws). */
    private void newObjects() throws IOException {
        due.part("new objects");
        boolean constructing = true;
        for (String line : code().split("\n")) {
            if (line.matches(METHOD)) {
                constructing = line.matches(" +(?:public )?[A-Z]\\w*\\(.*");
            }
            if (line.matches(".*\\bnew\\b.*")) {
                boolean field = line.matches(" +(?:private )?final \\S+ \\w+ = new .*");
                boolean thrown = line.contains("throw new NoSuchElementException(");
                holds("made in a constructor: " + line.trim(), constructing || field || thrown);
            }
        }
    }

    private void source() throws IOException {
        due.part("the source");
        holds("signs 1 to 127 alone", wholeSource().chars().allMatch(sign -> sign > 0 && sign < 128));
        String code = code();
        Matcher imports = Pattern.compile("import ([\\w.]+);").matcher(code);
        while (imports.find()) {
            holds("import " + imports.group(1), Set.of("java.util.NoSuchElementException", "java.util.Arrays")
                    .contains(imports.group(1)));
        }
        for (String banned : new String[] {"try", "catch", "finally", "synchronized", "assert", "instanceof",
            "protected", "package", "double", "float", "\\w+Exact", "Thread", "Random", "System\\.(?!arraycopy)\\w+",
            "Object", "List", "static \\{"}) {
            holds("no " + banned, !Pattern.compile("\\b" + banned + "\\b").matcher(code).find());
        }
        holds("no lambda", !code.contains("->"));
        holds("no method reference", !code.contains("::"));
        holds("no annotation", !code.contains("@"));
        holds("no joining of texts by +", !Pattern.compile("\"\\s*\\+|\\+\\s*\"").matcher(code).find());
        int from = 0;
        int line = 0;
        for (String text : code.split("\n")) {
            line++;
            if (text.matches(METHOD)) {
                from = line;
            }
            if (text.matches(" {4}(?: {4})?}")) {
                holds("short method up to line " + line + " without comments", line - from <= 60);
            }
        }
    }
}
