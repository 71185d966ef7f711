import java.lang.reflect.Method;
import java.lang.reflect.Modifier;
import java.nio.charset.StandardCharsets;
import java.nio.file.Files;
import java.nio.file.Path;
import java.util.ArrayList;
import java.util.List;
import java.util.TreeSet;
import java.util.regex.Matcher;
import java.util.regex.Pattern;
import java.util.stream.Stream;

/** README.md: what its examples answer, and that the calls, files and tests that it names are those that there are. */
final class ReadmeTest {
    private static final Pattern CALL = Pattern.compile("x\\.(\\w+)\\((.*)\\); +// (-?\\d+): \\S.*");
    private static final String NEW = "ParrotVow x = new ParrotVow();";

    public static void main(String[] args) throws Exception {
        String page = Files.readString(Path.of("README.md"), StandardCharsets.UTF_8);
        examples(page);
        calls(page);
        errors(page);
        commands(page);
        tests(page);
        Due.end();
    }

    private static List<String> blocks(String page, String kind) {
        List<String> all = new ArrayList<>();
        Matcher m = Pattern.compile("(?s)```" + kind + "\n(.*?)```").matcher(page);
        while (m.find()) {
            all.add(m.group(1));
        }
        return all;
    }

    private static void examples(String page) throws Exception {
        List<String> all = blocks(page, "java");
        Due.due("there are examples", all.isEmpty() ? 0 : 1, 1);
        for (String block : all) {
            ParrotVow x = null;
            for (String line : block.split("\n")) {
                Matcher m = CALL.matcher(line);
                if (line.equals(NEW)) {
                    x = new ParrotVow();
                } else if (x != null && m.matches()) {
                    Due.due("README.md: " + line, answer(x, m.group(1), m.group(2)), Long.parseLong(m.group(3)));
                } else {
                    Due.due("README.md has a line that is no call with its answer: " + line, 1, 0);
                }
            }
        }
    }

    private static long answer(ParrotVow x, String name, String arguments) throws Exception {
        String[] parts = arguments.isEmpty() ? new String[0] : arguments.split(", ");
        Method method = method(name);
        Object[] values = new Object[parts.length];
        for (int i = 0; i < parts.length; i++) {
            long v = Long.decode(parts[i].replace("L", ""));
            if (method.getParameterTypes()[i] == long.class) {
                values[i] = v;
            } else {
                values[i] = Math.toIntExact(v);
            }
        }
        return ((Number) method.invoke(x, values)).longValue();
    }

    private static Method method(String name) {
        for (Method m : ParrotVow.class.getDeclaredMethods()) {
            if (m.getName().equals(name) && Modifier.isPublic(m.getModifiers())) {
                return m;
            }
        }
        throw new IllegalStateException("README.md names no call of the class: " + name);
    }

    /** Each call stands once in the table of calls, and nothing else does. */
    private static void calls(String page) {
        List<String> named = new ArrayList<>();
        Matcher row = Pattern.compile("(?m)^\\| ((?:`\\w+` )+)\\|").matcher(page);
        while (row.find()) {
            for (String name : row.group(1).trim().split(" ")) {
                named.add(name.replace("`", ""));
            }
        }
        named.sort(null);
        TreeSet<String> face = new TreeSet<>();
        for (Method m : ParrotVow.class.getDeclaredMethods()) {
            if (Modifier.isPublic(m.getModifiers())) {
                face.add(m.getName());
            }
        }
        Due.due("the calls that README.md names", named.toString(), face.toString());
    }

    private static void errors(String page) {
        String[] names = {"BEYOND", "NONE", "STATE", "FULL", "KIND", "PARTED"};
        int[] answers = {Due.BEYOND, Due.NONE, Due.STATE, Due.FULL, Due.KIND, Due.PARTED};
        for (int k = 1; k <= 6; k++) {
            String row = "| " + names[k - 1] + " | " + answers[k - 1] + " | " + k + " |";
            Due.due("README.md has " + row, page.contains(row + "\n") ? 1 : 0, 1);
        }
    }

    /** Each file that a command names is there, and so is the source of each class that one runs. */
    private static void commands(String page) throws Exception {
        List<String> all = blocks(page, "sh");
        Due.due("there are commands", all.isEmpty() ? 0 : 1, 1);
        for (String block : all) {
            String[] words = block.trim().split("\\s+");
            for (int i = 0; i < words.length; i++) {
                String word = words[i];
                if (word.endsWith("/*.java")) {
                    Due.due(word, Files.isDirectory(Path.of(word).getParent()) ? 1 : 0, 1);
                } else if (word.endsWith(".java") || word.startsWith(".ci")) {
                    Due.due(word, Files.isReadable(Path.of(word)) ? 1 : 0, 1);
                } else if (i >= 3 && words[i - 3].equals("java")) {
                    boolean own = Files.isReadable(Path.of("src/test/java/" + word + ".java"));
                    boolean shared = Files.isReadable(Path.of("../shared/tests/" + word + ".java"));
                    Due.due("the test " + word, own || shared ? 1 : 0, 1);
                }
            }
        }
        Due.due(".ci/run can be run", Files.isExecutable(Path.of(".ci/run")) ? 1 : 0, 1);
    }

    /** The table of tests has each test, and each test that EDGES.md names is there, with the method named. */
    private static void tests(String page) throws Exception {
        TreeSet<String> there = new TreeSet<>();
        try (Stream<Path> files = Files.list(Path.of("src/test/java"))) {
            files.map(f -> f.getFileName().toString()).filter(f -> f.endsWith("Test.java"))
                .forEach(f -> there.add(f.substring(0, f.length() - 5)));
        }
        TreeSet<String> named = new TreeSet<>();
        Matcher row = Pattern.compile("(?m)^\\| (\\w+Test) \\|").matcher(page);
        while (row.find()) {
            named.add(row.group(1));
        }
        Due.due("the tests that README.md names", named.toString(), there.toString());
        edges();
    }

    private static void edges() throws Exception {
        String page = Files.readString(Path.of("EDGES.md"), StandardCharsets.UTF_8);
        Matcher m = Pattern.compile("(\\w+Test|Due)\\.(\\w+)((?:, [a-z]\\w*(?=,|;| \\||\\)| \\())*)").matcher(page);
        int many = 0;
        while (m.find()) {
            String source = Files.readString(Path.of("src/test/java/" + m.group(1) + ".java"), StandardCharsets.UTF_8);
            for (String method : (m.group(2) + m.group(3)).split(", ")) {
                many++;
                Due.due("EDGES.md: " + m.group(1) + "." + method, source.contains(" " + method + "(") ? 1 : 0, 1);
            }
        }
        Due.due("EDGES.md names methods", many > 50 ? 1 : 0, 1);
    }
}
