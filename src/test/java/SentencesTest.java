import java.io.IOException;
import java.nio.file.Files;
import java.nio.file.Path;
import java.util.ArrayList;
import java.util.List;
import java.util.regex.Matcher;
import java.util.regex.Pattern;
import java.util.stream.Stream;

/** The sentences that tests are told to be of stand in the document, and of each promise there is one. */
public final class SentencesTest {
    private static final Pattern TOLD = Pattern.compile("Due\\.under\\(((?:\\s*\"[^\"]*\"\\s*\\+?)+)\\)");
    private static final Pattern PART = Pattern.compile("\"([^\"]*)\"");
    private static final Pattern PROMISE = Pattern.compile("## Promise (\\d+): (.*?)(?=## )");

    public static void main(String[] args) throws IOException {
        String document = Files.readString(Path.of("../shared/DOC.md")).replace("`", "").replaceAll("\\s+", " ");
        List<String> sentences = sentences();
        for (String sentence : sentences) {
            Due.holds("in the document: " + sentence, document.contains(sentence));
        }
        Matcher promise = PROMISE.matcher(document);
        int promises = 0;
        while (promise.find()) {
            promises++;
            String text = promise.group(2);
            Due.holds("a sentence of promise " + promise.group(1), sentences.stream().anyMatch(text::contains));
        }
        Due.is("promises", promises, 40);
        Due.end();
    }

    private static List<String> sentences() throws IOException {
        List<String> all = new ArrayList<>();
        try (Stream<Path> files = Files.list(Path.of("src/test/java"))) {
            for (Path file : files.filter(f -> f.toString().endsWith(".java")).toList()) {
                Matcher told = TOLD.matcher(Files.readString(file));
                while (told.find()) {
                    StringBuilder sentence = new StringBuilder();
                    Matcher part = PART.matcher(told.group(1));
                    while (part.find()) {
                        sentence.append(part.group(1));
                    }
                    all.add(sentence.toString());
                }
            }
        }
        return all;
    }
}
