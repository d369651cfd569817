import java.io.File;
import java.io.IOException;
import java.lang.reflect.Method;
import java.lang.reflect.Modifier;
import java.nio.file.Files;
import java.nio.file.Path;
import java.util.ArrayList;
import java.util.List;
import java.util.TreeSet;
import java.util.regex.Matcher;
import java.util.regex.Pattern;

/** README.md holds: its example compiles as it is printed and prints what it says, its table names the calls. */
public final class ReadmeTest extends Checks {
    private static final Pattern EXAMPLE = Pattern.compile("^```java\\n(.*?)^```$", Pattern.DOTALL | Pattern.MULTILINE);
    private static final Pattern SHOWN = Pattern.compile("^ +show\\(.*\\); +// ([^: ]+)(: .+)?$");
    private static final Pattern CALL = Pattern.compile("`(\\w+)\\((.*?)\\)`");

    public static void main(String[] args) throws IllegalAccessException {
        runAll(ReadmeTest.class);
    }

    public static void examplePrintsWhatItSays() throws IOException, InterruptedException {
        begin("README.md: behind each call stands what it prints");
        Matcher found = EXAMPLE.matcher(readme());
        if (!found.find()) {
            tell("there is no example");
            return;
        }
        String example = found.group(1);
        List<String> want = answersOf(example);
        List<String> got = printedBy(example);
        due("the number of lines that the example prints", got.size(), want.size());
        for (int i = 0; i < Math.min(got.size(), want.size()); i++) {
            if (!got.get(i).equals(want.get(i))) {
                tell("line " + (i + 1) + " of what the example prints is " + got.get(i) + ", due is " + want.get(i));
            }
        }
    }

    public static void tableNamesTheCalls() throws IOException {
        begin("README.md: The calls, by what they are for");
        TreeSet<String> named = new TreeSet<>();
        for (String line : readme().split("\n")) {
            Matcher call = CALL.matcher(line);
            while (line.startsWith("| ") && call.find()) {
                String told = call.group(1) + " " + (call.group(2).isEmpty() ? 0 : call.group(2).split(", ").length);
                if (!named.add(told)) {
                    tell(told + " is named twice");
                }
            }
        }
        TreeSet<String> calls = new TreeSet<>();
        for (Method method : CardRacks.class.getDeclaredMethods()) {
            if (Modifier.isPublic(method.getModifiers())) {
                calls.add(method.getName() + " " + method.getParameterCount());
            }
        }
        if (!named.equals(calls)) {
            tell("the table names " + named + ", the calls are " + calls);
        }
    }

    private static String readme() throws IOException {
        return Files.readString(Path.of("README.md"));
    }

    /** What stands behind the calls that show something; each of them has to have it. */
    private static List<String> answersOf(String example) {
        List<String> answers = new ArrayList<>();
        for (String line : example.split("\n")) {
            Matcher shown = SHOWN.matcher(line);
            if (shown.matches()) {
                answers.add(shown.group(1));
            } else if (line.strip().startsWith("show(")) {
                tell("no answer stands behind " + line.strip());
            }
        }
        if (answers.isEmpty()) {
            tell("the example shows nothing");
        }
        return answers;
    }

    /** Compiles and runs the example as the README says; answers the lines that it prints. */
    private static List<String> printedBy(String example) throws IOException, InterruptedException {
        Path place = Files.createTempDirectory("readme");
        Path source = Files.writeString(place.resolve("Example.java"), example);
        String program = System.getProperty("java.class.path");
        run("javac", "-cp", program, "-d", place.toString(), source.toString());
        List<String> lines = run("java", "-cp", program + File.pathSeparator + place, "Example");
        for (Path file : List.of(source, place.resolve("Example.class"), place)) {
            Files.deleteIfExists(file);
        }
        return lines;
    }

    private static List<String> run(String... command) throws IOException, InterruptedException {
        Process process = new ProcessBuilder(command).redirectError(ProcessBuilder.Redirect.INHERIT).start();
        String printed = new String(process.getInputStream().readAllBytes());
        int code = process.waitFor();
        due("the exit code of " + command[0], code, 0);
        return printed.lines().toList();
    }
}
