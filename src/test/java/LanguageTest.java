import java.nio.file.Files;
import java.nio.file.Path;

/** Some of the rules of LANGUAGE.md that a look at the program's text can tell. */
public final class LanguageTest {
    private static final Kit KIT = new Kit();
    private static final String[] NEVER = {"throw", "throws", "try", "catch", "finally", "synchronized", "assert",
        "instanceof", "protected", "volatile", "native", "Object", "System", "Exception", "hashCode", "toString",
        "Exact", "yield", "var", "null"};

    public static void main(String[] args) throws Exception {
        String text = Files.readString(Path.of("src/main/java/SnowHouse.java"));
        String bare = text.replaceAll("(?s)/\\*.*?\\*/", " ").replaceAll("//[^\n]*", " ")
            .replaceAll("\"[^\"\n]*\"", "\"\"").replaceAll("'(\\\\.|[^'])'", "0");
        for (String word : NEVER) {
            KIT.due("no " + word, bare.matches("(?s).*\\b" + word + "\\b.*"), false);
        }
        KIT.due("no lambda", bare.contains("->"), false);
        KIT.due("no method reference", bare.contains("::"), false);
        KIT.due("no texts joined by +", bare.matches("(?s).*(\"\\s*\\+|\\+\\s*\").*"), false);
        KIT.due("one import", bare.split("\\bimport\\b", -1).length - 1, 1);
        KIT.due("of Arrays", bare.contains("import java.util.Arrays;"), true);
        KIT.due("no static block", bare.matches("(?s).*\\bstatic\\s*\\{.*"), false);
        KIT.due("only signs 10 and 32 to 126", text.matches("[\n -~]*"), true);
        methods(text);
        KIT.close();
    }

    /** Methods begin and end at the indent of four (of the class) or eight (of classes inside). */
    private static void methods(String text) {
        String[] lines = text.split("\n");
        int begin = -1;
        for (int i = 0; i < lines.length; i++) {
            if (lines[i].matches("( {4}| {8})[\\w\\[\\]. ]+\\([^;]*\\) \\{") && !lines[i].contains(" class ")) {
                begin = i;
                int parameters = lines[i].split(",").length;
                KIT.due("at most seven parameters: " + lines[i], parameters <= 7, true);
            } else if (lines[i].matches("( {4}| {8})\\}") && begin >= 0) {
                KIT.due("short: " + lines[begin], i - begin <= 60, true);
                begin = -1;
            }
        }
    }
}
