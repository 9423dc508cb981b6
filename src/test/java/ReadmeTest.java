import java.io.File;
import java.nio.file.Files;
import java.nio.file.Path;
import java.util.regex.Matcher;
import java.util.regex.Pattern;
import javax.tools.ToolProvider;

/** The answers that README.md tells in its examples, which are one program: each must be the class's own. */
public final class ReadmeTest {
    private static final Pattern BLOCK = Pattern.compile("```java\n(.*?)```", Pattern.DOTALL);
    private static final Pattern TOLD = Pattern.compile("(?:int|long) (\\w+) = (.*);\\s+// (-?\\d+)\\b.*");

    public static void main(String[] args) throws Exception {
        Check c = new Check();
        Path folder = Files.createTempDirectory("readme");
        try {
            Path source = folder.resolve("Examples.java");
            String examples = examples(Files.readString(Path.of("README.md")), c);
            Files.writeString(source, examples);
            String classes = System.getProperty("java.class.path");
            int failed = ToolProvider.getSystemJavaCompiler().run(null, null, null, "-proc:none", "-cp", classes, "-d",
                folder.toString(), source.toString());
            c.due("the examples compile", failed, 0);
            if (failed == 0) {
                Process run = new ProcessBuilder(System.getProperty("java.home") + "/bin/java", "-cp",
                    folder + File.pathSeparator + classes, "Examples").inheritIO().start();
                c.due("the examples answer as told", run.waitFor(), 0);
            }
        } finally {
            emptied(folder);
        }
        c.end("ReadmeTest");
    }

    private static String examples(String page, Check c) {
        StringBuilder s = new StringBuilder("public final class Examples {\n    public static void main(String[] args) {\n");
        s.append("Check c = new Check();\n");
        int told = 0;
        Matcher block = BLOCK.matcher(page);
        while (block.find()) {
            for (String line : block.group(1).split("\n")) {
                s.append(line).append('\n');
                Matcher answer = TOLD.matcher(line);
                if (answer.matches()) {
                    told++;
                    s.append("c.due(\"README: ").append(answer.group(2)).append("\", ").append(answer.group(1)).append(", ");
                    s.append(answer.group(3)).append(");\n");
                }
            }
        }
        c.holds("README.md tells answers", told > 10);
        return s.append("c.end(\"the examples in README.md\");\n    }\n}\n").toString();
    }

    private static void emptied(Path folder) {
        File[] files = folder.toFile().listFiles();
        for (File file : files == null ? new File[0] : files) {
            file.delete();
        }
        folder.toFile().delete();
    }
}
