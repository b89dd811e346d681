import java.io.IOException;
import java.nio.charset.StandardCharsets;
import java.nio.file.Files;
import java.nio.file.Path;
import java.util.ArrayList;
import java.util.Comparator;
import java.util.List;
import java.util.regex.Matcher;
import java.util.regex.Pattern;
import java.util.stream.Stream;

/** What README.md says: its example compiles and answers as told, and the files, tests and classes it names are there. */
public final class ReadmeExample {
    private static int asked;
    private static int wrong;

    public static void main(String[] args) throws IOException, InterruptedException {
        String page = Files.readString(Path.of("README.md"), StandardCharsets.UTF_8);
        example(page);
        commands(page);
        names(page);
        System.out.println("README.md: " + asked + " things held, " + wrong + " wrong");
        System.exit(wrong == 0 ? 0 : 1);
    }

    private static void hold(boolean isSo, String what) {
        asked++;
        if (!isSo) {
            wrong++;
            System.out.println(what);
        }
    }

    /** The text of a block of the page, the first one of its kind behind a place. */
    private static String block(String page, String kind, int from) {
        Matcher block = Pattern.compile("(?ms)^```" + kind + "\n(.*?)^```$").matcher(page);
        boolean isThere = block.find(from);
        hold(isThere, "there is no block of " + kind);
        return isThere ? block.group(1) : "";
    }

    /** Does what the page tells, in a directory of its own with the class alone. */
    private static void example(String page) throws IOException, InterruptedException {
        String program = block(page, "java", 0);
        String commands = block(page, "sh", page.indexOf("```java"));
        String answers = block(page, "text", 0);
        Matcher name = Pattern.compile("public final class (\\w+)").matcher(program);
        hold(name.find(), "the example has no class");
        String file = name.group(1) + ".java";
        hold(page.contains("`" + file + "`"), "the page does not tell the file of the example");
        Path place = Files.createTempDirectory("readme");
        try {
            Path source = Path.of("src/main/java/Schoolhours.java");
            Files.createDirectories(place.resolve(source).getParent());
            Files.copy(source, place.resolve(source));
            Files.writeString(place.resolve(file), program, StandardCharsets.UTF_8);
            String got = run(place, commands);
            hold(got.equals(answers), "the example answers\n" + got + "\nand not\n" + answers);
        } finally {
            remove(place);
        }
    }

    private static String run(Path place, String commands) throws IOException, InterruptedException {
        Process process = new ProcessBuilder("sh", "-e", "-c", commands).directory(place.toFile())
            .redirectError(ProcessBuilder.Redirect.INHERIT).start();
        process.getOutputStream().close();
        String got = new String(process.getInputStream().readAllBytes(), StandardCharsets.UTF_8);
        hold(process.waitFor() == 0, "the example does not end well");
        return got;
    }

    private static void remove(Path place) throws IOException {
        List<Path> all;
        try (Stream<Path> walk = Files.walk(place)) {
            all = walk.sorted(Comparator.reverseOrder()).toList();
        }
        for (Path path : all) {
            Files.delete(path);
        }
    }

    /** The files that are named are there. */
    private static void commands(String page) {
        Matcher path = Pattern.compile("(?<![\\w./])(\\.\\./shared|\\.ci|src)(/[\\w.]+)+").matcher(page);
        int paths = 0;
        while (path.find()) {
            paths++;
            hold(Files.exists(Path.of(path.group())), "there is no " + path.group());
        }
        hold(paths >= 8, "the page names " + paths + " paths alone");
        hold(Files.isExecutable(Path.of(".ci/run")), ".ci/run cannot be run");
    }

    /** All tests stand in the list, and all classes in the table, and no others. */
    private static void names(String page) throws IOException {
        String list = page.substring(page.indexOf("## How to run its tests"));
        List<String> tests = new ArrayList<>();
        try (Stream<Path> files = Files.list(Path.of("src/test/java"))) {
            files.forEach(file -> tests.add(file.getFileName().toString().replace(".java", "")));
        }
        for (String test : tests) {
            hold(list.contains("`" + test + "`"), "the page does not tell of the test " + test);
        }
        Matcher item = Pattern.compile("(?m)^- `(\\w+)`").matcher(list);
        while (item.find()) {
            hold(tests.contains(item.group(1)), "there is no test " + item.group(1));
        }
        String table = page.substring(page.indexOf("## How it is built"), page.indexOf("## How to run its tests"));
        List<String> classes = new ArrayList<>();
        for (Class<?> c : Schoolhours.class.getDeclaredClasses()) {
            classes.add(c.getSimpleName());
            hold(table.contains("`" + c.getSimpleName() + "`"), "the page does not tell of the class " + c.getSimpleName());
        }
        Matcher cell = Pattern.compile("(?m)^\\| (`[^|]*)\\|").matcher(table);
        while (cell.find()) {
            for (String name : cell.group(1).replaceAll("[`,]", " ").trim().split(" +")) {
                hold(classes.contains(name), "there is no class " + name);
            }
        }
    }
}
