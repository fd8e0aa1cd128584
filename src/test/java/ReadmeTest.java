import java.io.IOException;
import java.nio.file.DirectoryStream;
import java.nio.file.Files;
import java.nio.file.Path;
import java.util.regex.Matcher;
import java.util.regex.Pattern;

/** README.md: its example answers what it says, and it names all that there is to use and to run. */
public final class ReadmeTest {
    private static final Pattern BLOCK = Pattern.compile("(?ms)^```java\n(.*?)^```$");
    /** A call with the answer that the page tells behind it. */
    private static final Pattern TOLD = Pattern.compile("^(x\\.\\w+\\(.*\\)); +// (-?\\d+)(?::.*)?$");
    private static final Due due = new Due("ReadmeTest");

    public static void main(String[] args) throws Exception {
        String page = Files.readString(Path.of("README.md"));
        examples(page);
        calls(page);
        constants(page);
        tests(page);
        due.end();
    }

    private static void examples(String page) throws Exception {
        Matcher blocks = BLOCK.matcher(page);
        int found = 0;
        while (blocks.find()) {
            runExample("Example" + found, blocks.group(1));
            found++;
        }
        due.is("examples", found, 1);
    }

    private static void runExample(String name, String block) throws Exception {
        StringBuilder body = new StringBuilder();
        int told = 0;
        for (String row : block.split("\n")) {
            Matcher m = TOLD.matcher(row);
            if (m.matches()) {
                told++;
                body.append("due.is(\"").append(m.group(1)).append("\", ").append(m.group(1)).append(", ")
                    .append(m.group(2)).append("L);\n");
            } else {
                due.is("an answer stands behind " + row, row.startsWith("x.") ? 0 : 1, 1);
                body.append(row).append('\n');
            }
        }
        due.is("calls of the example with an answer", told > 20 ? 1 : 0, 1);
        String path = System.getProperty("java.class.path");
        Path source = Path.of(path, name + ".java");
        Files.writeString(source, "final class " + name + " {\n    static void run(Due due) {\n" + body + "    }\n}\n");
        // The compiler that .ci/run itself needs, and none besides.
        int failed = new ProcessBuilder("javac", "-cp", path, "-d", path, source.toString()).inheritIO().start().waitFor();
        due.is("the example compiles", failed, 0);
        if (failed == 0) {
            Class.forName(name).getDeclaredMethod("run", Due.class).invoke(null, due);
        }
    }

    /** Each call of the document's face has a row, with the document's names of its arguments. */
    private static void calls(String page) throws IOException {
        Matcher m = Pattern.compile("\n    public (?:int|long) (\\w+)\\(([^)]*)\\);")
            .matcher(Files.readString(Path.of("../shared/DOC.md")));
        int found = 0;
        while (m.find()) {
            String call = m.group(1) + "(" + m.group(2).replace("int ", "") + ")";
            due.is("the page has a row of " + call, page.contains("\n| `" + call + "` | ") ? 1 : 0, 1);
            found++;
        }
        due.is("calls of the document", found, 28);
    }

    private static void constants(String page) {
        String[] rows = {"| " + ValuePlaces.UNKNOWN + " | `UNKNOWN` |", "| " + ValuePlaces.OUTSIDE + " | `OUTSIDE` |",
            "| " + ValuePlaces.STATE + " | `STATE` |", "| " + ValuePlaces.FULL + " | `FULL` |",
            "| " + ValuePlaces.NONE + " | `NONE` |", "| `Long.MIN_VALUE` | `LOST` |"};
        for (String row : rows) {
            due.is("the page has " + row, page.contains("\n" + row) ? 1 : 0, 1);
        }
    }

    private static void tests(String page) throws IOException {
        String list = page.substring(page.indexOf("## How to run the tests"));
        try (DirectoryStream<Path> files = Files.newDirectoryStream(Path.of("src/test/java"), "*Test.java")) {
            for (Path file : files) {
                String name = file.getFileName().toString().replace(".java", "");
                due.is("the page names " + name, list.contains("`" + name + "`") ? 1 : 0, 1);
            }
        }
    }
}
