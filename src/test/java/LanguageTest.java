import java.io.IOException;
import java.nio.file.Files;
import java.nio.file.Path;
import java.util.regex.Pattern;

/** Some of the rules of LANGUAGE.md that can be seen from the program's words; .ci/run starts it in the root. */
public final class LanguageTest {
    private static final String[] NO_WORDS = {
        "throw", "throws", "try", "catch", "finally", "synchronized", "assert", "import", "package", "protected",
        "native", "volatile", "transient", "var", "equals", "hashCode", "toString", "System\\.out", "\\w+Exact",
    };

    public static void main(String[] args) throws IOException {
        String text = Files.readString(Path.of("src/main/java/MixedCells.java"));
        String code = text.replaceAll("(?s)/\\*.*?\\*/", " ").replaceAll("//[^\n]*", " ");
        for (String word : NO_WORDS) {
            Due.holds("without " + word, !Pattern.compile("\\b" + word + "\\b").matcher(code).find());
        }
        Due.holds("no lambda", !code.contains("->"));
        Due.holds("no method reference", !code.contains("::"));
        Due.holds("the signs are 1 to 127", text.chars().allMatch(c -> c >= 1 && c <= 127));
        Due.holds("inner classes are static", !Pattern.compile("(?<!static )(?<!static final )(?<!public final )\\bclass\\b")
                .matcher(code).find());
        Due.end();
    }
}
