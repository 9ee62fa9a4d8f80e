import java.nio.file.Files;
import java.nio.file.Path;
import java.util.Arrays;
import java.util.Set;
import java.util.TreeSet;
import java.util.regex.Matcher;
import java.util.regex.Pattern;

/** README.md: its example answers what it says, and it names every call and every test. */
public final class ReadmeTest {
    private static final Check check = new Check("ReadmeTest");
    private static final Pattern LINE = Pattern.compile("(?m)^x\\.(\\w+)\\((.*)\\); +// (-?\\d+):");
    private static final Pattern TEXT = Pattern.compile("String text = \"(.*)\";");

    public static void main(String[] args) throws Exception {
        String page = Files.readString(Path.of("README.md"));
        example(page);
        names(page);
        check.end();
    }

    private static void example(String page) {
        check.promise("example");
        Matcher told = TEXT.matcher(page);
        check.holds("there is a text", told.find());
        String text = told.group(1);
        LastJars x = new LastJars();
        int asked = 0;
        for (Matcher line = LINE.matcher(page); line.find(); asked++) {
            int[] a = numbers(line.group(2).replace("text.length()", Integer.toString(text.length())));
            check.due(line.group(), Long.parseLong(line.group(3)), Look.call(x, line.group(1), a));
            for (int i = 0; line.group(1).equals("sheet") && i < text.length(); i++) {
                x.put(0, i, text.charAt(i));
            }
        }
        check.holds("answers are told", asked == page.lines().filter(line -> line.startsWith("x.")).count() && asked > 9);
    }

    private static int[] numbers(String told) {
        return told.isEmpty() ? new int[0] : Arrays.stream(told.split(", ")).mapToInt(Integer::parseInt).toArray();
    }

    private static void names(String page) throws Exception {
        check.promise("names");
        Set<String> all = new TreeSet<>();
        Look.CALLS.keySet().forEach(name -> all.add("`" + name + "`"));
        try (var files = Files.list(Path.of("src/test/java"))) {
            files.map(file -> file.getFileName().toString()).filter(name -> name.endsWith("Test.java"))
                .forEach(name -> all.add("| " + name.replace(".java", "") + " |"));
        }
        all.forEach(name -> check.holds("README.md names " + name, page.contains(name)));
    }
}
