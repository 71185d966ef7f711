import java.lang.reflect.Constructor;
import java.lang.reflect.Field;
import java.lang.reflect.Member;
import java.lang.reflect.Method;
import java.lang.reflect.Modifier;
import java.nio.charset.StandardCharsets;
import java.nio.file.Files;
import java.nio.file.Path;
import java.util.ArrayList;
import java.util.Arrays;
import java.util.List;
import java.util.Set;
import java.util.TreeSet;
import java.util.regex.Matcher;
import java.util.regex.Pattern;

/** What of ../shared/LANGUAGE.md and of the document's face can be seen from the outside. */
final class LanguageTest {
    private static final String FACE = "int as(int,int)|int avoids(int,int)|int become(int,int)|int body(int)"
        + "|int brother(int)|int brotherIs(int,int)|int check()|int count(int)|int day(int)|int feed(long,int)"
        + "|int fits(int,int)|int forget(int)|int freest(int)|int image()|int judge(int)|int law(int,int,int,int)"
        + "|int loose(int)|int move(int,int,int,int,int)|int odds(int,int)|int parts(int)|int put(int,int,int)"
        + "|int restore()|int say(int,int)|int seed(int)|int sheet(int,int,int)|int sign(int,int)|int signs(int)"
        + "|int sure(int)|int talk(int,int)|int tell(int)|int text(int)|int told(int)|int untell(int)"
        + "|int voice(int,int,int)|int vow(int)|int vows(int)|long unsaid(int)";

    public static void main(String[] args) throws Exception {
        face();
        inside();
        words();
        shape();
        Due.end();
    }

    private static void face() {
        List<String> open = new ArrayList<>();
        Set<String> names = new TreeSet<>();
        for (Method m : ParrotVow.class.getDeclaredMethods()) {
            if (Modifier.isPublic(m.getModifiers())) {
                String parameters = Arrays.stream(m.getParameterTypes()).map(Class::getName).reduce((a, b) -> a + "," + b).orElse("");
                open.add(m.getReturnType() + " " + m.getName() + "(" + parameters + ")");
                names.add(m.getName());
            }
        }
        open.sort(null);
        Due.due("the face", String.join("|", open), FACE);
        int flags = ParrotVow.class.getModifiers();
        Due.due("public and final", Modifier.isPublic(flags) && Modifier.isFinal(flags) ? 1 : 0, 1);
        Constructor<?>[] all = ParrotVow.class.getDeclaredConstructors();
        Due.due("constructors", all.length + all[0].getParameterCount(), 1);
        for (Method m : ParrotVow.class.getDeclaredMethods()) {
            if (!Modifier.isPublic(m.getModifiers())) {
                isPrivate(m);
                Due.due("no public name: " + m.getName(), names.contains(m.getName()) ? 1 : 0, 0);
            }
        }
        for (Class<?> c : ParrotVow.class.getDeclaredClasses()) {
            for (Method m : c.getDeclaredMethods()) {
                Due.due("no public name: " + c.getName() + "." + m.getName(), names.contains(m.getName()) ? 1 : 0, 0);
            }
        }
        for (Field f : ParrotVow.class.getDeclaredFields()) {
            isPrivate(f);
        }
    }

    private static void isPrivate(Member m) {
        Due.due("private: " + m.getName(), m.isSynthetic() || Modifier.isPrivate(m.getModifiers()) ? 1 : 0, 1);
    }

    private static void inside() {
        Class<?>[] all = ParrotVow.class.getDeclaredClasses();
        Due.due("at most twelve classes", all.length + 1 <= 12 ? 1 : 0, 1);
        fields(ParrotVow.class);
        for (Class<?> c : all) {
            int flags = c.getModifiers();
            Due.due("static: " + c.getName(), Modifier.isStatic(flags) ? 1 : 0, 1);
            Due.due("not open: " + c.getName(), Modifier.isPublic(flags) || Modifier.isProtected(flags) ? 1 : 0, 0);
            fields(c);
        }
    }

    private static void fields(Class<?> c) {
        int many = 0;
        for (Field f : c.getDeclaredFields()) {
            if (Modifier.isStatic(f.getModifiers())) {
                Due.due("final: " + f.getName(), Modifier.isFinal(f.getModifiers()) ? 1 : 0, 1);
            } else {
                many++;
            }
        }
        Due.due("some twenty fields: " + c.getName(), many <= 20 ? 1 : 0, 1);
    }

    private static String source() throws Exception {
        return Files.readString(Path.of("src/main/java/ParrotVow.java"), StandardCharsets.US_ASCII);
    }

    private static String bare() throws Exception {
        return source().replaceAll("(?s)/\\*.*?\\*/", "").replaceAll("//[^\n]*", "").replaceAll("\"[^\"\n]*\"", "\"\"");
    }

    private static void words() throws Exception {
        String[] words = {"throw", "throws", "try", "catch", "synchronized", "assert", "import", "package", "yield",
            "volatile", "native", "System", "Random", "Thread", "Object", "equals", "hashCode", "toString", "Exact"};
        for (String word : words) {
            if (word.equals("System")) {
                Due.due("System but for arraycopy", found(bare(), "\\bSystem\\b(?!\\.arraycopy)"), 0);
            } else {
                Due.due("the word " + word, found(bare(), word.equals("Exact") ? "Exact\\b" : "\\b" + word + "\\b"), 0);
            }
        }
        Due.due("lambdas", found(bare(), "->"), 0);
        Due.due("method references", found(bare(), "::"), 0);
        Due.due("Math, but for min and max", found(bare(), "\\bMath\\.(?!min|max)"), 0);
        Due.due("static blocks", found(bare(), "static\\s*\\{"), 0);
        for (String line : bare().split("\n")) {
            if (found(line, "\\bnew\\b") > 0) {
                boolean field = found(line, "^ +(private )?final \\S+ \\w+ = new\\b") == 1;
                boolean constructor = found(line, "^ +(cells|sheets\\[i\\]) = new\\b") == 1;
                Due.due("made in a field or a constructor: " + line.trim(), field || constructor ? 1 : 0, 1);
            }
        }
    }

    private static int found(String text, String pattern) {
        Matcher m = Pattern.compile(pattern).matcher(text);
        int many = 0;
        while (m.find()) {
            many++;
        }
        return many;
    }

    /** No method is longer than sixty lines, none takes more than seven parameters. */
    private static void shape() throws Exception {
        int from = -1;
        String[] lines = source().split("\n");
        for (int i = 0; i < lines.length; i++) {
            if (lines[i].matches(" {4}( {4})?\\S.*\\) \\{")) {
                from = i;
            } else if (from >= 0 && lines[i].matches(" {4}( {4})?\\}")) {
                Due.due("lines of " + lines[from].trim(), i - from <= 60 ? 1 : 0, 1);
                Due.due("parameters of " + lines[from].trim(), found(lines[from], ",") <= 6 ? 1 : 0, 1);
                from = -1;
            }
        }
    }
}
