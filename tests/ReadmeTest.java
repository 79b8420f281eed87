import java.io.IOException;
import java.lang.reflect.Method;
import java.lang.reflect.Modifier;
import java.net.URL;
import java.net.URLClassLoader;
import java.nio.file.DirectoryStream;
import java.nio.file.Files;
import java.nio.file.Path;
import java.util.ArrayList;
import java.util.List;
import java.util.Set;
import java.util.TreeSet;
import java.util.regex.Matcher;
import java.util.regex.Pattern;
import javax.tools.ToolProvider;

/** README.md says what is so: its example answers as told, its commands run, it leaves out no call and no test. */
public final class ReadmeTest {
    private static final Pattern BLOCK = Pattern.compile("(?ms)^```(\\w+)\n(.*?)^```$");
    private static final Pattern ANSWERED = Pattern.compile("^(x\\.\\w+\\(.*\\)); *// (-?\\d+|true|false)(?=:|$)");

    private static final Checks checks = new Checks();

    public static void main(String[] args) throws Exception {
        String readme = Files.readString(Path.of("README.md"));
        theExample(blocks(readme, "java"));
        theCommands(blocks(readme, "sh"));
        theCalls(readme);
        theTests(readme);
        checks.finish();
    }

    private static List<String> blocks(String readme, String kind) {
        List<String> found = new ArrayList<>();
        Matcher m = BLOCK.matcher(readme);
        while (m.find()) {
            if (m.group(1).equals(kind)) {
                found.add(m.group(2));
            }
        }
        return found;
    }

    /** The first block is a method, the second a run of calls with their answers. */
    private static void theExample(List<String> java) throws Exception {
        checks.in("the example");
        checks.due("blocks", java.size(), 2);
        List<String> calls = new ArrayList<>();
        List<String> wants = new ArrayList<>();
        StringBuilder body = new StringBuilder();
        for (String line : java.get(1).split("\n")) {
            Matcher m = ANSWERED.matcher(line);
            if (m.find()) {
                calls.add(m.group(1));
                wants.add(m.group(2));
                body.append("told.add(String.valueOf(").append(m.group(1)).append("));\n");
            } else {
                checks.due("told with an answer: " + line, line.startsWith("x."), false);
                body.append(line).append('\n');
            }
        }
        List<?> told = answersOf(java.get(0), body.toString());
        for (int i = 0; i < calls.size(); i++) {
            checks.due(calls.get(i) + " answers " + told.get(i) + ", not " + wants.get(i), told.get(i).equals(wants.get(i)), true);
        }
        checks.due("some fifty calls", calls.size() > 40, true);
    }

    private static List<?> answersOf(String helper, String body) throws Exception {
        Path work = Files.createTempDirectory("readme");
        Path source = work.resolve("Example.java");
        Files.writeString(source, "public final class Example {\n" + helper
            + "public static java.util.List<String> answers() {\njava.util.List<String> told = new java.util.ArrayList<>();\n"
            + body + "return told;\n}\n}\n");
        int failed = ToolProvider.getSystemJavaCompiler().run(null, null, null, "-cp", System.getProperty("java.class.path"), "-d",
            work.toString(), source.toString());
        checks.due("it compiles", failed, 0);
        try (URLClassLoader loader = new URLClassLoader(new URL[] {work.toUri().toURL()})) {
            return (List<?>) loader.loadClass("Example").getMethod("answers").invoke(null);
        } finally {
            remove(work);
        }
    }

    private static void remove(Path place) throws IOException {
        if (Files.isDirectory(place)) {
            try (DirectoryStream<Path> inside = Files.newDirectoryStream(place)) {
                for (Path p : inside) {
                    remove(p);
                }
            }
        }
        Files.delete(place);
    }

    /** The first runs all tests, this one too, so that here it is only looked at; the others run some of them. */
    private static void theCommands(List<String> sh) throws Exception {
        checks.in("the commands");
        checks.due("blocks", sh.size(), 3);
        checks.due("the first is .ci/run", sh.get(0).equals(".ci/run\n"), true);
        checks.due(".ci/run can be executed", Files.isExecutable(Path.of(".ci/run")), true);
        for (String command : sh.subList(1, sh.size())) {
            Path work = Files.createTempDirectory("readme");
            ProcessBuilder bash = new ProcessBuilder("bash", "-e", "-c", command).redirectErrorStream(true);
            bash.redirectOutput(work.resolve("printed").toFile());
            bash.environment().put("TMPDIR", work.toString());
            int code = bash.start().waitFor();
            checks.due(command + Files.readString(work.resolve("printed")), code, 0);
            remove(work);
        }
    }

    private static void theCalls(String readme) {
        checks.in("the calls");
        String example = readme.substring(readme.indexOf("RoarMill x ="), readme.indexOf("All the calls:"));
        String table = readme.substring(readme.indexOf("All the calls:"), readme.indexOf("## How to run"));
        for (Method m : RoarMill.class.getDeclaredMethods()) {
            if (Modifier.isPublic(m.getModifiers())) {
                String call = m.getName() + "(";
                checks.due(call + ") is in the table", table.contains("`" + call), true);
                boolean used = example.contains("x." + call) || m.getName().equals("feed");
                checks.due(call + ") is in the example", used, true);
            }
        }
    }

    private static void theTests(String readme) throws IOException {
        checks.in("the tests");
        Set<String> listed = new TreeSet<>();
        Matcher m = Pattern.compile("(?m)^\\| `(\\w+Test)` \\|").matcher(readme);
        while (m.find()) {
            listed.add(m.group(1));
        }
        Set<String> there = new TreeSet<>();
        try (DirectoryStream<Path> tests = Files.newDirectoryStream(Path.of("tests"), "*.java")) {
            for (Path test : tests) {
                there.add(test.getFileName().toString().replace(".java", ""));
            }
        }
        checks.due("listed " + listed + ", there " + there, listed.equals(there), true);
    }
}
