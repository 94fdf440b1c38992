import java.io.IOException;
import java.lang.reflect.Method;
import java.lang.reflect.Modifier;
import java.nio.file.Files;
import java.nio.file.Path;
import java.util.ArrayList;
import java.util.Comparator;
import java.util.List;
import java.util.TreeSet;
import java.util.regex.Matcher;
import java.util.regex.Pattern;
import java.util.stream.Collectors;
import java.util.stream.Stream;

/** What README.md says holds: its example, its commands, the calls and the tests that it names. */
final class ReadmeTest {
    private static final Path CLASS = Path.of("src/main/java/SandcastleLeague.java");
    private static final Path TESTS = Path.of("src/test/java");

    private ReadmeTest() {
    }

    public static void main(String[] args) throws IOException, InterruptedException {
        String readme = Files.readString(Path.of("README.md"));
        exampleAnswersAsSaid(readme);
        callsAreThoseOfTheFace(readme);
        testsAreThoseOfTheProject(readme);
        Check.finish("ReadmeTest");
    }

    private static void exampleAnswersAsSaid(String readme) throws IOException, InterruptedException {
        Path project = Files.createTempDirectory("readme");
        try {
            Files.createDirectories(project.resolve(CLASS).getParent());
            Files.copy(CLASS, project.resolve(CLASS));
            Files.writeString(project.resolve("Example.java"), block(readme, "java"));
            Path told = project.resolve("told.txt");
            int code = new ProcessBuilder("sh", "-e", "-c", block(readme, "sh"))
                .directory(project.toFile()).redirectErrorStream(true).redirectOutput(told.toFile())
                .start().waitFor();
            String got = Files.readString(told);
            Check.due("the exit code of README's commands, which told:\n" + got, 0, code);
            same("README's example", block(readme, "text"), got);
        } finally {
            remove(project);
        }
    }

    private static void callsAreThoseOfTheFace(String readme) {
        List<String> said = new ArrayList<>();
        for (String call : found(readme, "(?m)^\\| `(\\w+\\([^)]*\\))` \\|")) {
            String inside = call.substring(call.indexOf('(') + 1, call.length() - 1);
            said.add(call.substring(0, call.indexOf('(')) + " " + (inside.isEmpty() ? 0 : inside.split(",").length));
        }
        List<String> face = new ArrayList<>();
        for (Method method : SandcastleLeague.class.getDeclaredMethods()) {
            if (Modifier.isPublic(method.getModifiers())) {
                face.add(method.getName() + " " + method.getParameterCount());
            }
        }
        same("README's calls", sorted(face), sorted(said));
    }

    private static void testsAreThoseOfTheProject(String readme) throws IOException {
        List<String> there;
        try (Stream<Path> files = Files.list(TESTS)) {
            there = files.map(file -> file.getFileName().toString())
                .filter(name -> name.endsWith("Test.java"))
                .map(name -> name.substring(0, name.length() - ".java".length()))
                .collect(Collectors.toList());
        }
        same("README's tests", sorted(there), sorted(found(readme, "`(\\w+Test)`")));
        Check.due("the one command is there", 1, Files.isExecutable(Path.of(".ci/run")) ? 1 : 0);
        Check.due("README tells the one command", 1, readme.contains("\n    bash .ci/run\n") ? 1 : 0);
    }

    /** The one block of this kind. */
    private static String block(String readme, String kind) {
        List<String> blocks = found(readme, "(?ms)^```" + kind + "\n(.*?)^```$");
        Check.due("blocks of " + kind, 1, blocks.size());
        return blocks.isEmpty() ? "" : blocks.get(0);
    }

    private static List<String> found(String text, String pattern) {
        List<String> all = new ArrayList<>();
        Matcher matcher = Pattern.compile(pattern).matcher(text);
        while (matcher.find()) {
            all.add(matcher.group(1));
        }
        return all;
    }

    private static String sorted(List<String> names) {
        return new TreeSet<>(names).toString();
    }

    private static void same(String what, String want, String got) {
        Check.due(what + " is:\n" + got + "\ndue is:\n" + want + "\nthat it is so", 1, want.equals(got) ? 1 : 0);
    }

    private static void remove(Path directory) throws IOException {
        List<Path> all;
        try (Stream<Path> inside = Files.walk(directory)) {
            all = inside.sorted(Comparator.reverseOrder()).collect(Collectors.toList());
        }
        for (Path path : all) {
            Files.delete(path);
        }
    }
}
