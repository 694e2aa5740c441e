import java.io.IOException;
import java.nio.charset.StandardCharsets;
import java.nio.file.Files;
import java.nio.file.Path;
import java.util.ArrayList;
import java.util.LinkedHashMap;
import java.util.List;
import java.util.Map;
import java.util.regex.Matcher;
import java.util.regex.Pattern;

/** The document by sections ("promise 3", "term 2", "answers", "constants", "limit"), and which words of it a case is about. */
final class Doc {
    private static final Pattern PROMISE =
        Pattern.compile("(?m)^## Promise (\\d+): .*\\n\\n`[^`]*`: (.*)$");
    private static final Pattern TERM =
        Pattern.compile("(?s)==== (\\d+) (.*?)(?=\\n==== |\\nAnswers: )");
    private static final Pattern ANSWERS = Pattern.compile("(?m)^Answers: (.*)$");
    private static final Pattern CONSTANTS = Pattern.compile("(?m)^The constants: (.*)$");
    private static final Pattern LIMIT = Pattern.compile("(?m)^(An object is used .*);.*$");

    private final Map<String, String> sections = new LinkedHashMap<>();
    private final Map<String, boolean[]> told = new LinkedHashMap<>();

    Doc(Path file) throws IOException {
        String text = new String(Files.readAllBytes(file), StandardCharsets.UTF_8);
        Matcher promise = PROMISE.matcher(text);
        while (promise.find()) add("promise " + promise.group(1), promise.group(2));
        Matcher term = TERM.matcher(text);
        while (term.find()) add("term " + term.group(1), term.group(2));
        addAll("answers", ANSWERS.matcher(text));
        addAll("constants", CONSTANTS.matcher(text));
        addAll("limit", LIMIT.matcher(text));
    }

    private void addAll(String section, Matcher words) {
        while (words.find()) add(section, words.group(1));
    }

    private void add(String section, String words) {
        String plain = words.replace("```text", "").replace("```", "").replaceAll("\\s+", " ").trim();
        sections.put(section, plain);
        told.put(section, new boolean[plain.length()]);
    }

    int sections() {
        return sections.size();
    }

    /** Marks a sentence as told: whether its section has it, and just once. */
    boolean tell(String section, String sentence) {
        String words = sections.get(section);
        int at = words == null ? -1 : words.indexOf(sentence);
        if (at < 0 || words.indexOf(sentence, at + 1) >= 0) return false;
        for (int i = at; i < at + sentence.length(); i++) told.get(section)[i] = true;
        return true;
    }

    /** The words that no case is about, each behind its section. */
    List<String> untold() {
        List<String> rest = new ArrayList<>();
        for (Map.Entry<String, String> section : sections.entrySet()) {
            String words = section.getValue();
            StringBuilder run = new StringBuilder();
            for (int i = 0; i <= words.length(); i++) {
                boolean open = i < words.length() && !told.get(section.getKey())[i];
                if (open) run.append(words.charAt(i));
                if (open || run.length() == 0) continue;
                if (run.chars().anyMatch(Character::isLetterOrDigit)) rest.add(section.getKey() + ": " + run.toString().trim());
                run.setLength(0);
            }
        }
        return rest;
    }
}
