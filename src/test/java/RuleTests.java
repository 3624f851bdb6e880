import java.io.DataInputStream;
import java.io.IOException;
import java.lang.reflect.Constructor;
import java.lang.reflect.Field;
import java.lang.reflect.Method;
import java.lang.reflect.Modifier;
import java.nio.charset.StandardCharsets;
import java.nio.file.Files;
import java.nio.file.Path;
import java.util.ArrayList;
import java.util.Arrays;
import java.util.List;
import java.util.Set;
import java.util.TreeSet;
import java.util.regex.Matcher;
import java.util.regex.Pattern;
import java.util.stream.Collectors;

/** The face of the class, and those rules of LANGUAGE.md that can be told without its meaning. */
public final class RuleTests {
    private static final Path SOURCE = Path.of("src", "main", "java", "MarkArenas.java");

    private static final String[] FACE = {
        "int open() throws IllegalStateException",
        "int make(int,int) throws IndexOutOfBoundsException,IllegalArgumentException,"
            + "IllegalStateException",
        "int link(int,int,int) throws IndexOutOfBoundsException",
        "int root(int,boolean) throws IndexOutOfBoundsException",
        "int pin(int,boolean) throws IndexOutOfBoundsException",
        "int giveBack(int,int) throws IndexOutOfBoundsException,IllegalArgumentException,"
            + "IllegalStateException",
        "int close(int) throws IndexOutOfBoundsException,IllegalStateException",
        "int set(int,int) throws IndexOutOfBoundsException,IllegalArgumentException",
        "int append(int) throws IllegalArgumentException,IllegalStateException",
        "int clearBuffer()",
        "int firstError()",
        "int makeAll(int) throws IndexOutOfBoundsException,IllegalArgumentException,"
            + "IllegalStateException",
        "int undo() throws IllegalStateException",
        "int object(int,int) throws IndexOutOfBoundsException,IllegalArgumentException",
        "int arena(int,int) throws IndexOutOfBoundsException,IllegalArgumentException",
        "int at(int,int) throws IndexOutOfBoundsException",
        "int count(int) throws IllegalArgumentException",
        "int setting(int) throws IndexOutOfBoundsException",
        "int whyNot(int,int) throws IndexOutOfBoundsException",
        "int ifGiven(int,int) throws IndexOutOfBoundsException",
        "int ifLost(int) throws IndexOutOfBoundsException",
        "int best()",
        "double livingShare()",
        "long digest()",
    };

    private static final String[] FORBIDDEN = {"import ", "package ", "try {", "catch (", "finally",
        "->", "::", "synchronized", "assert ", "\" +", "+ \"", "Exact(", "Double.", "float ",
        "getMessage", "hashCode", "toString", "equals(", "Object "};

    private static int wrong = 0;

    private static void hold(boolean holds, String what) {
        if (!holds) {
            wrong++;
            System.out.println("RuleTests: " + what);
        }
    }

    private static String names(Class<?>[] types) {
        return Arrays.stream(types).map(Class::getSimpleName).collect(Collectors.joining(","));
    }

    private static void face() {
        Set<String> due = new TreeSet<>(List.of(FACE));
        Set<String> there = new TreeSet<>();
        Set<String> publicNames = new TreeSet<>();
        for (Method method : MarkArenas.class.getDeclaredMethods()) {
            if (Modifier.isPublic(method.getModifiers())) {
                String thrown = names(method.getExceptionTypes());
                there.add(method.getReturnType().getSimpleName() + " " + method.getName() + "("
                        + names(method.getParameterTypes()) + ")"
                        + (thrown.isEmpty() ? "" : " throws " + thrown));
                publicNames.add(method.getName());
            }
        }
        hold(there.equals(due), "the face is " + there);
        for (Method method : MarkArenas.class.getDeclaredMethods()) {
            int kind = method.getModifiers();
            hold(Modifier.isPublic(kind) || Modifier.isPrivate(kind) || method.isSynthetic(),
                    method + " is neither public nor private");
            hold(Modifier.isPublic(kind) || !publicNames.contains(method.getName()),
                    method + " bears a public name");
            hold(method.getParameterCount() <= 7, method + " takes too many parameters");
        }
        hold(Modifier.isPublic(MarkArenas.class.getModifiers())
                && Modifier.isFinal(MarkArenas.class.getModifiers()), "the class is public and final");
        Constructor<?>[] constructors = MarkArenas.class.getDeclaredConstructors();
        hold(constructors.length == 1 && Modifier.isPublic(constructors[0].getModifiers())
                && constructors[0].getParameterCount() == 0, "there is one public constructor");
    }

    private static void members() {
        Class<?>[] inside = MarkArenas.class.getDeclaredClasses();
        hold(inside.length <= 11, "too many classes");
        for (Class<?> one : inside) {
            hold(Modifier.isStatic(one.getModifiers()) && Modifier.isPrivate(one.getModifiers()),
                    one + " is private and static");
            fields(one);
        }
        fields(MarkArenas.class);
        for (Field field : MarkArenas.class.getDeclaredFields()) {
            hold(Modifier.isPrivate(field.getModifiers()) || field.getName().equals("NONE"),
                    field + " is private");
        }
    }

    private static void fields(Class<?> one) {
        int own = 0;
        for (Field field : one.getDeclaredFields()) {
            boolean isStatic = Modifier.isStatic(field.getModifiers());
            hold(!isStatic || Modifier.isFinal(field.getModifiers()), field + " is final");
            hold(!isStatic || field.getType().isPrimitive(), field + " is a constant");
            own += isStatic ? 0 : 1;
        }
        hold(own <= 20, one + " has too many fields");
    }

    private static void source() throws IOException {
        String text = Files.readString(SOURCE, StandardCharsets.ISO_8859_1);
        List<String> lines = text.lines().collect(Collectors.toList());
        int begun = 0;
        for (int i = 0; i < lines.size(); i++) {
            String line = lines.get(i);
            String code = line.trim();
            hold(code.chars().allMatch(c -> c >= 32 && c < 127), "a sign in line " + (i + 1));
            if (code.startsWith("//") || code.startsWith("*") || code.startsWith("/**")) {
                continue;
            }
            for (String word : FORBIDDEN) {
                hold(!code.contains(word), "line " + (i + 1) + " holds " + word);
            }
            boolean makes = code.contains("new ");
            boolean inField = code.contains("final") && code.endsWith(";");
            hold(!makes || code.startsWith("throw new ") || inField
                    || code.equals("states[place] = new State();"), "line " + (i + 1) + " makes: " + code);
            if (line.matches(" {4}( {4})?[a-z].*\\{")) {
                begun = i;
            }
            hold(!line.matches(" {4}( {4})?\\}") || i - begun <= 60 || !line.startsWith("        "),
                    "the method that ends in line " + (i + 1) + " is long");
        }
    }

    /** Rule 4: whole rows are copied where they hold numbers. */
    private static void copies() throws IOException {
        String text = Files.readString(SOURCE, StandardCharsets.ISO_8859_1);
        Matcher copied = Pattern.compile("System\\.arraycopy\\((?:\\w+\\.)?(\\w+),").matcher(text);
        while (copied.find()) {
            hold(text.matches("(?s).*(int|long|char|byte)\\[\\] " + copied.group(1) + "\\b.*"),
                    "a row of no numbers is copied: " + copied.group(1));
        }
    }

    private static final Set<String> LIBRARY = Set.of("java/lang/Object", "java/lang/System",
            "java/lang/String", "java/lang/IllegalStateException",
            "java/lang/IllegalArgumentException", "java/lang/IndexOutOfBoundsException");

    /** Rule 4: of the library the compiled classes name nothing but this. */
    private static void library() throws IOException {
        Set<String> named = new TreeSet<>(namedBy("MarkArenas"));
        for (Class<?> one : MarkArenas.class.getDeclaredClasses()) {
            named.addAll(namedBy(one.getName()));
        }
        named.removeIf(name -> name.matches("MarkArenas.*|\\[[IJCBZ]|\\[LMarkArenas.*"));
        hold(LIBRARY.containsAll(named), "of the library it uses " + named);
    }

    private static Set<String> namedBy(String name) throws IOException {
        try (DataInputStream in = new DataInputStream(
                RuleTests.class.getResourceAsStream(name + ".class"))) {
            in.skipBytes(8);
            int entries = in.readUnsignedShort();
            String[] texts = new String[entries];
            List<Integer> classes = new ArrayList<>();
            for (int entry = 1; entry < entries; entry++) {
                int kind = in.readUnsignedByte();
                if (kind == 1) {
                    texts[entry] = in.readUTF();
                } else if (kind == 7) {
                    classes.add(in.readUnsignedShort());
                } else {
                    in.skipBytes(kind == 15 ? 3 : kind == 8 || kind == 16 || kind > 18 ? 2
                            : kind == 5 || kind == 6 ? 8 : 4);
                    entry += kind == 5 || kind == 6 ? 1 : 0;
                }
            }
            return classes.stream().map(place -> texts[place]).collect(Collectors.toSet());
        }
    }

    private static final String[] HEADS = {"arenas, objects", "open make link root pin giveBack close set",
        "texts", "append clearBuffer firstError makeAll undo",
        "looks; nothing is changed", "object arena at count setting",
        "what would be; nothing is changed", "whyNot ifGiven ifLost best livingShare digest"};

    /** The document's "Ahead of the calls": each head stands before its calls, in their order. */
    private static void heads() throws IOException {
        String text = Files.readString(SOURCE, StandardCharsets.ISO_8859_1);
        int place = text.indexOf("    public MarkArenas()");
        for (int i = 0; i < HEADS.length; i += 2) {
            int next = text.indexOf("    // ---- " + HEADS[i] + "\n", place);
            hold(next >= place, "no head in its place: " + HEADS[i]);
            place = next;
            for (String name : HEADS[i + 1].split(" ")) {
                next = text.indexOf("    public " + (name.equals("livingShare") ? "double "
                        : name.equals("digest") ? "long " : "int ") + name + "(", place);
                hold(next >= place, "not behind its head: " + name);
                place = next;
            }
        }
    }

    public static void main(String[] args) throws IOException {
        face();
        members();
        source();
        copies();
        library();
        heads();
        System.out.println(wrong == 0 ? "RuleTests: all rules are kept" : wrong + " rules are broken");
        if (wrong != 0) {
            System.exit(1);
        }
    }
}
