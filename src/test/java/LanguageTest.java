import java.lang.reflect.Constructor;
import java.lang.reflect.Field;
import java.lang.reflect.Method;
import java.lang.reflect.Modifier;
import java.nio.charset.StandardCharsets;
import java.nio.file.Files;
import java.nio.file.Paths;
import java.util.Set;
import java.util.TreeSet;
import java.util.regex.Matcher;
import java.util.regex.Pattern;

/** The document's face, and the rules of LANGUAGE.md that a text and reflection show. */
public final class LanguageTest {
    private static final String[] FACE = {
        "stage 2", "wall 3", "things 3", "actor 3", "lay 3", "keep 0", "use 1", "block 2", "join 3", "take 1",
        "number 2", "cue 4", "top 2", "look 2", "hole 2", "of 2", "scriptOf 2", "flag 0", "tick 1", "back 1",
        "who 2", "item 2", "said 2", "feed 2", "wish 0", "mark 1", "fails 1", "least 1", "hint 2", "write 1",
        "text 1", "act 3", "trace 1", "taken 2", "count 1", "sheet 3", "cell 3", "copy 5"};
    private static final String[] WORDS = {
        "throw", "throws", "try", "catch", "finally", "synchronized", "assert", "volatile", "native", "var",
        "Object", "Exception", "Override", "Scanner", "Random", "Thread", "equals", "hashCode"};
    private static final Check check = new Check();

    public static void main(String[] args) throws Exception {
        String file = "src/main/java/BlockStage.java";
        String source = new String(Files.readAllBytes(Paths.get(file)), StandardCharsets.ISO_8859_1);
        face();
        classes();
        words(source);
        methodLengths(source);
        check.end();
    }

    private static void face() {
        check.about("the face (rule 1)");
        Class<?> c = BlockStage.class;
        check.holds("public and final", Modifier.isPublic(c.getModifiers()) && Modifier.isFinal(c.getModifiers()));
        Set<String> open = new TreeSet<>();
        Set<String> publicNames = new TreeSet<>();
        for (Method m : c.getDeclaredMethods()) {
            if (m.isSynthetic()) continue;
            if (Modifier.isPrivate(m.getModifiers())) continue;
            check.holds(m + " is public, no static, of ints", m.getModifiers() == Modifier.PUBLIC
                && m.getReturnType() == int.class);
            open.add(m.getName() + " " + m.getParameterCount());
            publicNames.add(m.getName());
        }
        check.holds("the methods are " + open, open.equals(new TreeSet<>(java.util.Arrays.asList(FACE))));
        for (Method m : c.getDeclaredMethods()) {
            if (Modifier.isPrivate(m.getModifiers())) check.holds(m.getName() + " is a public one's name", !publicNames.contains(m.getName()));
        }
        Set<String> constants = new TreeSet<>();
        for (Field f : c.getDeclaredFields()) {
            if (!Modifier.isPrivate(f.getModifiers())) constants.add(f.getName());
        }
        check.holds("the constants are " + constants, constants.toString().equals("[BAD, FULL, NO, NONE, STATE]"));
        Constructor<?>[] made = c.getDeclaredConstructors();
        check.holds("one public constructor", made.length == 1 && Modifier.isPublic(made[0].getModifiers())
            && made[0].getParameterCount() == 0);
        for (Class<?> inside : c.getDeclaredClasses()) {
            for (Method m : inside.getDeclaredMethods()) {
                check.holds(inside + "." + m.getName() + " is a public one's name", !publicNames.contains(m.getName()));
            }
        }
    }

    private static void classes() {
        check.about("the classes (rules 2, 5, 11)");
        Class<?>[] inside = BlockStage.class.getDeclaredClasses();
        check.holds("at most twelve classes", inside.length + 1 <= 12);
        sizes(BlockStage.class);
        for (Class<?> c : inside) {
            check.holds(c + " is static and no public one", Modifier.isStatic(c.getModifiers())
                && !Modifier.isPublic(c.getModifiers()) && !Modifier.isProtected(c.getModifiers()));
            sizes(c);
        }
    }

    private static void sizes(Class<?> c) {
        int fields = 0;
        for (Field f : c.getDeclaredFields()) {
            boolean isStatic = Modifier.isStatic(f.getModifiers());
            check.holds(f + " is final", !isStatic || Modifier.isFinal(f.getModifiers()));
            if (!isStatic) fields++;
        }
        check.holds(c + " has " + fields + " fields", fields <= 20);
        for (Method m : c.getDeclaredMethods()) check.holds(m + ": at most seven parameters", m.getParameterCount() <= 7);
    }

    private static void words(String source) {
        check.about("the text (rules 2, 4, 6)");
        for (int i = 0; i < source.length(); i++) check.holds("byte " + i + " is 1 to 126", source.charAt(i) > 0 && source.charAt(i) < 127);
        String code = source.replaceAll("(?s)/\\*.*?\\*/", " ").replaceAll("//[^\n]*", " ").replaceAll("\"[^\"]*\"", "\"\"");
        for (String word : WORDS) check.holds("no " + word, !Pattern.compile("\\b" + word + "\\b").matcher(code).find());
        check.holds("no lambda", !code.contains("->"));
        check.holds("no method reference", !code.contains("::"));
        Matcher imports = Pattern.compile("import ([\\w.]+);").matcher(code);
        while (imports.find()) check.holds("import " + imports.group(1), imports.group(1).equals("java.util.Arrays"));
        Matcher calls = Pattern.compile("\\b(Math|Arrays|System|Integer|Long)\\.(\\w+)").matcher(code);
        Set<String> right = new TreeSet<>(java.util.Arrays.asList("Math.min", "Math.max", "Math.abs", "Arrays.fill",
            "System.arraycopy", "Integer.MIN_VALUE"));
        while (calls.find()) check.holds(calls.group(), right.contains(calls.group()));
    }

    /** Methods of classes and of classes inside: from their head's line to the brace below it. */
    private static void methodLengths(String source) {
        check.about("the methods (rule 11)");
        String[] lines = source.split("\n");
        for (int i = 0; i < lines.length; i++) {
            Matcher head = Pattern.compile("^( {4}| {8})(?! )[\\w\\[\\] ]+\\(.*\\) \\{$").matcher(lines[i]);
            if (!head.matches()) continue;
            int end = i;
            while (end < lines.length && !lines[end].equals(head.group(1) + "}")) end++;
            check.holds(lines[i].trim() + " has " + (end - i + 1) + " lines", end - i < 60);
        }
    }
}
