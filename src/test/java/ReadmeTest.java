import java.io.File;
import java.io.IOException;
import java.net.URL;
import java.net.URLClassLoader;
import java.nio.file.Files;
import java.nio.file.Path;
import java.util.regex.Matcher;
import java.util.regex.Pattern;
import javax.tools.ToolProvider;

/** Every line of README.md that tells an answer is run. Its argument is the path of KerbSide.java. */
public final class ReadmeTest {
    private static final Pattern BLOCK = Pattern.compile("(?s)```java\n(.*?)```");
    private static final Pattern ANSWER = Pattern.compile("^(x\\..*\\)); +// (true|false|-?\\d+)(:.*)?$");

    public static void main(String[] args) throws Exception {
        Path root = Path.of(args[0]).toAbsolutePath().getParent().getParent().getParent().getParent();
        String readme = Files.readString(root.resolve("README.md"));
        Path work = Files.createTempDirectory("readme");
        try {
            Path source = work.resolve("Page.java");
            Files.writeString(source, page(readme));
            int made = ToolProvider.getSystemJavaCompiler().run(null, null, null, "-cp",
                System.getProperty("java.class.path"), "-d", work.toString(), source.toString());
            Check.due("the page's code compiles", made, 0);
            if (made == 0) {
                run(work);
            }
        } finally {
            for (File file : work.toFile().listFiles()) {
                Files.delete(file.toPath());
            }
            Files.delete(work);
        }
        Check.finish();
    }

    private static void run(Path work) throws Exception {
        try (URLClassLoader loader = new URLClassLoader(new URL[] {work.toUri().toURL()})) {
            loader.loadClass("Page").getMethod("main").invoke(null);
        }
    }

    /** Blocks that begin with a method are members of the page's class; lines of the others run one by one. */
    private static String page(String readme) throws IOException {
        StringBuilder members = new StringBuilder();
        StringBuilder steps = new StringBuilder();
        Matcher blocks = BLOCK.matcher(readme);
        int answers = 0;
        while (blocks.find()) {
            if (blocks.group(1).startsWith("static")) {
                members.append(blocks.group(1));
                continue;
            }
            for (String line : blocks.group(1).split("\n")) {
                Matcher told = ANSWER.matcher(line);
                if (told.matches()) {
                    answers++;
                    String call = told.group(1);
                    steps.append("ReadmeTest.due(\"").append(call).append("\", ").append(call).append(", ")
                        .append(told.group(2)).append(");\n");
                } else {
                    Check.due("a line with an answer, or without a comment: " + line, line.contains("//"), false);
                    steps.append(line).append("\n");
                }
            }
        }
        Check.due("answers told", answers >= 30, true);
        return "public final class Page {\n" + members + "public static void main() {\n"
            + steps + "}\n}\n";
    }

    public static void due(String call, long got, long want) {
        Check.due(call, got, want);
    }

    public static void due(String call, boolean got, boolean want) {
        Check.due(call, got, want);
    }
}
