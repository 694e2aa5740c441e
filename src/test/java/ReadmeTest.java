import java.lang.reflect.Method;
import java.nio.charset.StandardCharsets;
import java.nio.file.Files;
import java.nio.file.Paths;
import java.util.HashMap;
import java.util.Map;
import java.util.regex.Matcher;
import java.util.regex.Pattern;

/** The calls of README.md answer what is told behind them there, and all calls are named. */
public final class ReadmeTest {
    private static final Pattern FENCE = Pattern.compile("(?s)```java\\n(.*?)```");
    private static final Pattern CALL =
        Pattern.compile("(?:int (\\w+) = )?x\\.(\\w+)\\(([^)]*)\\); +// (-?\\d+)(?::.*)?");
    private static final String NEW = "BlockStage x = new BlockStage();";
    private static final Check check = new Check();
    private static final Map<String, Integer> names = new HashMap<>();
    private static BlockStage x = null;

    private ReadmeTest() {
    }

    public static void main(String[] args) throws Exception {
        check.about("README.md");
        String text = new String(Files.readAllBytes(Paths.get("README.md")), StandardCharsets.UTF_8);
        Matcher fence = FENCE.matcher(text);
        int lines = 0;
        while (fence.find()) {
            for (String line : fence.group(1).split("\n")) {
                if (!line.isEmpty()) doLine(line);
                lines++;
            }
        }
        check.holds("it has lines of Java", lines > 0);
        for (Method m : BlockStage.class.getMethods()) {
            if (m.getDeclaringClass() == BlockStage.class) check.holds(m.getName() + " is named", text.contains("`" + m.getName() + "`"));
        }
        check.end();
    }

    private static void doLine(String line) throws Exception {
        if (line.equals(NEW)) {
            x = new BlockStage();
            return;
        }
        Matcher call = CALL.matcher(line);
        check.holds("a call with its answer: " + line, call.matches());
        if (!call.matches()) return;
        int got = answer(call.group(2), call.group(3));
        check.due(call.group(2) + "(" + call.group(3) + ")", got, Long.parseLong(call.group(4)));
        if (call.group(1) != null) names.put(call.group(1), got);
    }

    private static int answer(String name, String list) throws Exception {
        String[] words = list.isEmpty() ? new String[0] : list.split(", ");
        Class<?>[] kinds = new Class<?>[words.length];
        Object[] numbers = new Object[words.length];
        for (int i = 0; i < words.length; i++) {
            kinds[i] = int.class;
            numbers[i] = names.containsKey(words[i]) ? names.get(words[i]) : Integer.decode(words[i]);
        }
        return (int) BlockStage.class.getMethod(name, kinds).invoke(x, numbers);
    }
}
