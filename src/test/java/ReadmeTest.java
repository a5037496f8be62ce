import com.sun.source.util.JavacTask;
import java.net.URI;
import java.nio.file.Files;
import java.nio.file.Path;
import java.util.ArrayList;
import java.util.List;
import java.util.Set;
import java.util.TreeSet;
import java.util.regex.Matcher;
import java.util.regex.Pattern;
import java.util.stream.Stream;
import javax.tools.DiagnosticCollector;
import javax.tools.JavaFileObject;
import javax.tools.SimpleJavaFileObject;
import javax.tools.ToolProvider;

/** What README.md shows of the class and of its tests is so. */
public final class ReadmeTest {
    private static final Path README = Path.of("README.md");
    private static final Path TESTS = Path.of("src/test/java");
    private static final String NEW_HALL = "NotaryHall hall = new NotaryHall();";
    private static final Pattern SHOWN_CALL =
            Pattern.compile("hall\\.(\\w+\\([^)]*\\)); +// (-?\\d+|true|false)(: .+)?");
    private static final Pattern SHOWN_CONSTANT = Pattern.compile("\\| `(\\w+)` \\| (-\\d+) \\|.*");
    private static final Pattern NAMED_TEST = Pattern.compile("`(\\w+Test)`");

    private static final Check check = new Check();

    public static void main(String[] args) throws Exception {
        List<String> lines = Files.readAllLines(README);
        List<List<String>> examples = examples(lines);
        check.due("README shows an example", examples.isEmpty(), false);
        for (List<String> example : examples) {
            answersAsShown(example);
            check.due("an example compiles", compiles(example), true);
        }
        constantsAreAsShown(lines);
        everyTestIsNamed(lines);
        check.end();
    }

    private static List<List<String>> examples(List<String> lines) {
        List<List<String>> examples = new ArrayList<>();
        boolean inside = false;
        for (String line : lines) {
            if (line.equals("```java")) {
                examples.add(new ArrayList<>());
                inside = true;
            } else if (line.startsWith("```")) {
                inside = false;
            } else if (inside) {
                examples.get(examples.size() - 1).add(line);
            }
        }
        return examples;
    }

    private static void answersAsShown(List<String> example) {
        check.due("an example begins with a new hall", example.get(0).equals(NEW_HALL), true);
        Caller hall = new Caller();
        for (String line : example.subList(1, example.size())) {
            Matcher shown = SHOWN_CALL.matcher(line);
            check.due("README line is a call with its answer: " + line, shown.matches(), true);
            if (shown.matches()) {
                check.due("README: " + line, hall.call(shown.group(1)), number(shown.group(2)));
            }
        }
    }

    private static int number(String answer) {
        return answer.equals("true") ? 1 : answer.equals("false") ? 0 : Integer.parseInt(answer);
    }

    /** Caller takes 1 for true, the compiler does not. */
    private static boolean compiles(List<String> example) throws Exception {
        String text = "class Example { void show() {\n" + String.join("\n", example) + "\n} }";
        JavaFileObject source = new SimpleJavaFileObject(URI.create("string:///Example.java"),
                JavaFileObject.Kind.SOURCE) {
            @Override
            public CharSequence getCharContent(boolean ignoreEncodingErrors) {
                return text;
            }
        };
        DiagnosticCollector<JavaFileObject> told = new DiagnosticCollector<>();
        List<String> options = List.of("-cp", System.getProperty("java.class.path"));
        JavacTask task = (JavacTask) ToolProvider.getSystemJavaCompiler()
                .getTask(null, null, told, options, null, List.of(source));
        task.analyze();
        told.getDiagnostics().forEach(System.out::println);
        return told.getDiagnostics().isEmpty();
    }

    private static void constantsAreAsShown(List<String> lines) throws Exception {
        int shown = 0;
        for (String line : lines) {
            Matcher constant = SHOWN_CONSTANT.matcher(line);
            if (constant.matches()) {
                shown++;
                check.due("README: " + line, NotaryHall.class.getField(constant.group(1)).getInt(null),
                        Integer.parseInt(constant.group(2)));
            }
        }
        check.due("README shows every constant", shown, NotaryHall.class.getFields().length);
    }

    private static void everyTestIsNamed(List<String> lines) throws Exception {
        Set<String> named = new TreeSet<>();
        for (String line : lines) {
            Matcher name = NAMED_TEST.matcher(line);
            while (name.find()) {
                named.add(name.group(1));
            }
        }
        Set<String> present = new TreeSet<>();
        try (Stream<Path> files = Files.list(TESTS)) {
            files.map(file -> file.getFileName().toString())
                    .filter(name -> name.endsWith("Test.java"))
                    .forEach(name -> present.add(name.replace(".java", "")));
        }
        check.due("README names " + named + ", there are " + present, named.equals(present), true);
    }
}
