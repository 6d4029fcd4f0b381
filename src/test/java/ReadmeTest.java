import java.io.IOException;
import java.nio.file.Files;
import java.nio.file.Path;
import java.util.ArrayList;
import java.util.Comparator;
import java.util.List;
import java.util.Set;
import java.util.TreeSet;
import java.util.regex.Matcher;
import java.util.regex.Pattern;
import java.util.stream.Stream;

/** README.md does what it says: its example and its commands are tried as they stand there. */
public final class ReadmeTest {
  private static final Path MAIN = Path.of("src/main/java/WoodenMains.java");
  private static final Path RUN = Path.of(".ci/run");
  private static final Path TESTS = Path.of("src/test/java");
  private static final String PASSES = "public final class NAME { public static void main(String[] a) {} }\n";
  private static final String FAILS =
      "public final class NAME { public static void main(String[] a) { System.exit(1); } }\n";
  private static int wrong = 0;

  public static void main(String[] args) throws Exception {
    String all = Files.readString(Path.of("README.md"));
    String use = section(all, "Use");
    String tests = section(all, "Tests");
    Path room = Files.createTempDirectory("readme");
    try {
      checkExample(use, room.resolve("use"));
      checkWayToRunTests(tests, room.resolve("tests"));
    } finally {
      remove(room);
    }
    checkTable("calls", namesIn(use, "(?m)^\\| (`.*?) \\|"), callsOfFace());
    checkTable("tests", namesIn(tests, "(?m)^\\| (`.*?) \\|"), filesOfTests());
    if (wrong != 0) System.exit(1);
    System.out.println("README.md does what it says");
  }

  private static void due(String what, String got, String want) {
    if (got.equals(want)) return;
    wrong++;
    System.out.println(what + ": there is\n" + got + "due is\n" + want);
  }

  private static String section(String all, String heading) {
    return found(all, "(?s)\n## " + heading + "\n(.*?)(?=\n## |$)");
  }

  private static String block(String section, String kind) {
    return found(section, "(?s)\n```" + kind + "\n(.*?)```\n");
  }

  private static String found(String text, String pattern) {
    Matcher matcher = Pattern.compile(pattern).matcher(text);
    if (!matcher.find()) throw new IllegalStateException("README.md has no " + pattern);
    return matcher.group(1);
  }

  private static void checkExample(String use, Path project) throws Exception {
    String program = block(use, "java");
    String name = found(program, "public final class (\\w+)");
    copy(MAIN, project);
    write(project.resolve(name + ".java"), program);
    due("the example", said(block(use, "sh"), project), block(use, "text") + "exit 0\n");
  }

  /** A small project of its own, since a run of this one would run this test again. */
  private static void checkWayToRunTests(String tests, Path folder) throws Exception {
    Path project = folder.resolve("main");
    Path own = project.resolve(TESTS);
    Path shared = folder.resolve("shared/tests");
    String command = block(tests, "sh");
    copy(MAIN, project);
    copy(RUN, project);
    write(own.resolve("OwnTest.java"), PASSES);
    dueEnd("no test is shared", said(command, project), "1 passed, 1 failed\nexit 1\n");
    write(shared.resolve("Runs.java"), PASSES);
    dueEnd("all pass", said(command, project), "2 passed, 0 failed\nexit 0\n");
    dueEnd("from another folder", said(command.replace(".ci/run", "main/.ci/run"), folder), "2 passed, 0 failed\nexit 0\n");
    write(shared.resolve("Runs.java"), FAILS);
    dueEnd("a shared test fails", said(command, project), "1 passed, 1 failed\nexit 1\n");
    write(shared.resolve("Runs.java"), PASSES);
    write(own.resolve("OwnTest.java"), FAILS);
    String told = said(command, project);
    dueEnd("a test of the project fails", told, "1 passed, 1 failed\nexit 1\n");
    due("each test is named", String.join(" ", namesIn(told, "(?m)^== (.*)$")), "OwnTest Runs");
    Files.delete(own.resolve("OwnTest.java"));
    dueEnd("the project has no test", said(command, project), "1 passed, 1 failed\nexit 1\n");
  }

  private static void dueEnd(String what, String told, String end) {
    due(what, told.endsWith(end) ? end : told, end);
  }

  private static String said(String commands, Path folder) throws Exception {
    Process shell = new ProcessBuilder("sh", "-e", "-c", commands)
        .directory(folder.toFile()).redirectErrorStream(true).start();
    shell.getOutputStream().close();
    String out = new String(shell.getInputStream().readAllBytes());
    return out + "exit " + shell.waitFor() + "\n";
  }

  /** As in the project, whether it may be run too. */
  private static void copy(Path file, Path project) throws IOException {
    Path there = project.resolve(file);
    Files.createDirectories(there.getParent());
    Files.copy(file, there, java.nio.file.StandardCopyOption.COPY_ATTRIBUTES);
  }

  private static void write(Path file, String text) throws IOException {
    Files.createDirectories(file.getParent());
    String name = file.getFileName().toString().replace(".java", "");
    Files.writeString(file, text.replace("NAME", name));
  }

  private static void remove(Path folder) throws IOException {
    List<Path> all;
    try (Stream<Path> found = Files.walk(folder)) {
      all = found.sorted(Comparator.reverseOrder()).toList();
    }
    for (Path it : all) Files.delete(it);
  }

  private static List<String> namesIn(String text, String line) {
    List<String> names = new ArrayList<>();
    Matcher lines = Pattern.compile(line).matcher(text);
    while (lines.find()) {
      Matcher name = Pattern.compile("(\\w+)(\\.java|`)").matcher(lines.group(1));
      while (name.find()) names.add(name.group(1));
    }
    return names;
  }

  private static Set<String> callsOfFace() {
    Set<String> names = new TreeSet<>();
    for (java.lang.reflect.Method m : WoodenMains.class.getDeclaredMethods()) {
      if (java.lang.reflect.Modifier.isPublic(m.getModifiers())) names.add(m.getName());
    }
    return names;
  }

  private static Set<String> filesOfTests() throws IOException {
    Set<String> names = new TreeSet<>();
    try (Stream<Path> files = Files.list(TESTS)) {
      files.forEach(it -> names.add(it.getFileName().toString().replace(".java", "")));
    }
    return names;
  }

  /** Each thing stands in the table once. */
  private static void checkTable(String what, List<String> named, Set<String> there) {
    List<String> sorted = new ArrayList<>(named);
    sorted.sort(null);
    due("the table of " + what, sorted + "\n", List.copyOf(there) + "\n");
  }
}
