import java.io.IOException;
import java.lang.reflect.InvocationTargetException;
import java.lang.reflect.Method;
import java.lang.reflect.Modifier;
import java.nio.charset.StandardCharsets;
import java.nio.file.Files;
import java.nio.file.Path;
import java.util.HashMap;
import java.util.List;
import java.util.Map;
import java.util.regex.Matcher;
import java.util.regex.Pattern;
import java.util.stream.Collectors;

/** What README.md says: each example is run line by line, and its calls and files are there. */
public final class ReadmeTests {
    private static final String NEW = "MarkArenas x = new MarkArenas();";
    private static final Pattern TYPED = Pattern.compile(
            "for \\(char sign : \"(.*)\"\\.toCharArray\\(\\)\\) x\\.append\\(sign\\);");
    private static final Pattern CALLED = Pattern.compile(
            "(?:int (\\w+) = )?x\\.(\\w+)\\(([^)]*)\\); *// (?:throws )?([\\w.-]+)(:.*)?");

    private static final Map<String, Integer> numbers = new HashMap<>();
    private static MarkArenas x = new MarkArenas();
    private static int lines = 0;
    private static int wrong = 0;

    private static void hold(boolean holds, String what) {
        if (!holds) {
            wrong++;
            System.out.println("README.md: " + what);
        }
    }

    private static Object given(String word) {
        if (word.equals("true") || word.equals("false")) {
            return word.equals("true");
        }
        return numbers.containsKey(word) ? numbers.get(word) : Integer.valueOf(word);
    }

    private static Object[] givenAll(String words) {
        String[] parts = words.isEmpty() ? new String[0] : words.split(", ");
        Object[] all = new Object[parts.length];
        for (int i = 0; i < parts.length; i++) {
            all[i] = given(parts[i]);
        }
        return all;
    }

    private static Method named(String name) {
        for (Method method : MarkArenas.class.getDeclaredMethods()) {
            if (Modifier.isPublic(method.getModifiers()) && method.getName().equals(name)) {
                return method;
            }
        }
        throw new IllegalStateException("README.md calls " + name);
    }

    private static String answer(String name, Object[] arguments) throws IllegalAccessException {
        try {
            return String.valueOf(named(name).invoke(x, arguments));
        } catch (InvocationTargetException e) {
            return e.getCause().getClass().getSimpleName();
        }
    }

    private static void runLine(String line) throws IllegalAccessException {
        lines++;
        Matcher typed = TYPED.matcher(line);
        Matcher called = CALLED.matcher(line);
        if (line.equals(NEW)) {
            x = new MarkArenas();
            numbers.clear();
        } else if (typed.matches()) {
            for (char sign : typed.group(1).toCharArray()) {
                x.append(sign);
            }
        } else if (called.matches()) {
            String got = answer(called.group(2), givenAll(called.group(3)));
            hold(got.equals(called.group(4)), line + " answered " + got);
            hold(line.contains("// throws ") == got.endsWith("Exception"), line + " tells no throw");
            if (called.group(1) != null) {
                numbers.put(called.group(1), Integer.valueOf(got));
            }
        } else {
            hold(false, "no line of an example: " + line);
        }
    }

    private static void examples(List<String> page) throws IllegalAccessException {
        boolean inside = false;
        for (String line : page) {
            if (line.startsWith("```")) {
                inside = line.equals("```java");
            } else if (inside) {
                runLine(line);
            }
        }
        hold(lines >= 40, "only " + lines + " lines of examples");
    }

    private static void calls(List<String> page) {
        String told = page.stream().filter(line -> line.startsWith("| `"))
                .collect(Collectors.joining("\n"));
        for (Method method : MarkArenas.class.getDeclaredMethods()) {
            if (Modifier.isPublic(method.getModifiers())) {
                hold(told.contains("| `" + method.getName() + "("), "no " + method.getName());
            }
        }
        Matcher named = Pattern.compile("\\| `(\\w+)\\(([^)]*)\\)` \\|").matcher(told);
        while (named.find()) {
            hold(named(named.group(1)).getParameterCount()
                    == (named.group(2).isEmpty() ? 0 : named.group(2).split(", ").length),
                    "the parameters of " + named.group(1));
        }
    }

    /** Each file that the page names is there, and each test is named. */
    private static void files(List<String> page) throws IOException {
        String text = String.join("\n", page);
        Matcher named = Pattern.compile("(?:src|\\.\\./shared|\\.ci)/[\\w./]*\\w").matcher(text);
        while (named.find()) {
            hold(Files.exists(Path.of(named.group())), "there is no " + named.group());
        }
        for (String folder : List.of("src/main/java", "src/test/java", "src/test/support")) {
            List<Path> there;
            try (var found = Files.list(Path.of(folder))) {
                there = found.collect(Collectors.toList());
            }
            for (Path file : there) {
                hold(text.contains("`" + folder + "/" + file.getFileName() + "`"),
                        file.getFileName() + " is not told");
            }
        }
    }

    public static void main(String[] args) throws IOException, IllegalAccessException {
        List<String> page = Files.readAllLines(Path.of("README.md"), StandardCharsets.UTF_8);
        examples(page);
        calls(page);
        files(page);
        System.out.println(wrong == 0 ? "ReadmeTests: " + lines + " lines as they are told"
                : "ReadmeTests: " + wrong + " faults");
        if (wrong != 0) {
            System.exit(1);
        }
    }
}
