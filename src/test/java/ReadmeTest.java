import java.io.ByteArrayOutputStream;
import java.io.PrintStream;
import java.nio.file.Files;
import java.nio.file.Path;
import java.util.regex.Matcher;
import java.util.regex.Pattern;

/** What README.md says holds: the example tells what stands there, and what it names is there. */
public final class ReadmeTest {
    private static final Kit KIT = new Kit();

    public static void main(String[] args) throws Exception {
        String page = Files.readString(Path.of("README.md"));
        KIT.due("the page has what the example tells", page.contains("```text\n" + toldBySupper() + "```"), true);
        named(page, "src/[\\w/]+\\.java", "");
        named(page, "(?<=`)\\w+Test(?=[`.])", "src/test/java/");
        for (java.lang.reflect.Method method : SnowHouse.class.getDeclaredMethods()) {
            if (java.lang.reflect.Modifier.isPublic(method.getModifiers())) {
                boolean told = Pattern.compile("`" + method.getName() + "[`(]").matcher(page).find();
                KIT.due("the page tells of " + method.getName(), told, true);
            }
        }
        KIT.close();
    }

    private static String toldBySupper() {
        PrintStream before = System.out;
        ByteArrayOutputStream told = new ByteArrayOutputStream();
        try {
            System.setOut(new PrintStream(told, true));
            Supper.main(new String[0]);
        } finally {
            System.setOut(before);
        }
        return told.toString().replace(System.lineSeparator(), "\n");
    }

    /** Each file, or class with a test, that the page names is there. */
    private static void named(String page, String pattern, String folder) {
        Matcher matcher = Pattern.compile(pattern).matcher(page);
        int found = 0;
        while (matcher.find()) {
            found++;
            String file = folder + matcher.group() + (folder.isEmpty() ? "" : ".java");
            KIT.due("there is " + file, Files.exists(Path.of(file)), true);
        }
        KIT.due("the page names " + pattern, found > 0, true);
    }
}
