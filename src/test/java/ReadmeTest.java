import java.io.ByteArrayOutputStream;
import java.io.IOException;
import java.io.PrintStream;
import java.lang.reflect.Method;
import java.lang.reflect.Modifier;
import java.nio.charset.StandardCharsets;
import java.nio.file.Files;
import java.nio.file.Path;
import java.util.List;
import java.util.stream.Stream;

/** README.md: its example is a file that is run here, and it tells all calls and all tests. */
public final class ReadmeTest {
    public static void main(String[] args) throws IOException {
        String readme = Files.readString(Path.of("README.md"));
        Check.same("the example", Files.readString(Path.of("src/test/java/Example.java")),
                block(readme, "java"));
        Check.same("what the example prints", printed(), block(readme, "text"));
        for (Method method : MarkovBench.class.getDeclaredMethods()) {
            if (Modifier.isPublic(method.getModifiers())) {
                checkCall(readme, method);
            }
        }
        for (String test : tests()) {
            Check.same("README.md tells " + test, true, readme.contains("`" + test + "`"));
        }
        Check.same("README.md tells how they are run", true, readme.contains(".ci/run"));
        Check.end();
    }

    /** The first block of a kind, without its marks. */
    private static String block(String readme, String kind) {
        String mark = "```" + kind + "\n";
        int from = readme.indexOf(mark);
        int to = from < 0 ? -1 : readme.indexOf("```\n", from + mark.length());
        return to < 0 ? "" : readme.substring(from + mark.length(), to);
    }

    private static String printed() {
        PrintStream before = System.out;
        ByteArrayOutputStream all = new ByteArrayOutputStream();
        System.setOut(new PrintStream(all, true, StandardCharsets.UTF_8));
        try {
            Example.main(new String[0]);
        } finally {
            System.setOut(before);
        }
        return all.toString(StandardCharsets.UTF_8).replace(System.lineSeparator(), "\n");
    }

    /** Each call has a row of a table, with its arguments and what is answered. */
    private static void checkCall(String readme, Method method) {
        String name = method.getName();
        List<String> rows = readme.lines().filter(l -> l.startsWith("| `" + name + "(")).toList();
        Check.same("rows of " + name, 1, rows.size());
        for (String row : rows) {
            String[] cells = row.substring(2).split("\\|");
            String given = row.substring(row.indexOf('(') + 1, row.indexOf(')'));
            int count = given.isEmpty() ? 0 : given.split(",").length;
            Check.same("arguments of " + name, method.getParameterCount(), count);
            Check.same("cells of " + name, 3, cells.length);
            checkRefusals(name, cells[cells.length - 1], method.getExceptionTypes());
        }
    }

    private static void checkRefusals(String name, String cell, Class<?>[] due) {
        String told = String.join(", ", Stream.of(cell.split("[^A-Za-z]+"))
                .filter(w -> w.equals("Index") || w.equals("Argument") || w.equals("State")).toList());
        String want = String.join(", ", Stream.of(due).map(ReadmeTest::shortName).toList());
        Check.same("what " + name + " throws", want, told);
    }

    private static String shortName(Class<?> type) {
        return type == IndexOutOfBoundsException.class ? "Index"
                : type == IllegalArgumentException.class ? "Argument"
                : type == IllegalStateException.class ? "State" : type.getSimpleName();
    }

    private static List<String> tests() throws IOException {
        try (Stream<Path> files = Files.list(Path.of("src/test/java"))) {
            return files.map(f -> f.getFileName().toString()).filter(n -> n.endsWith("Test.java"))
                    .map(n -> n.substring(0, n.length() - ".java".length())).toList();
        }
    }
}
