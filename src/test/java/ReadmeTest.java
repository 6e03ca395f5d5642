import java.io.IOException;
import java.lang.reflect.Method;
import java.lang.reflect.Modifier;
import java.net.URL;
import java.net.URLClassLoader;
import java.nio.file.Files;
import java.nio.file.Path;
import java.util.ArrayList;
import java.util.Comparator;
import java.util.List;
import java.util.Set;
import java.util.TreeSet;
import java.util.regex.Matcher;
import java.util.regex.Pattern;
import java.util.stream.Stream;
import javax.tools.ToolProvider;

/** What README.md says: the calls that it shows, their answers, its tables, and its way to run a test. Run from the project's folder. */
final class ReadmeTest {
  private static final Pattern ANSWERED = Pattern.compile("((?:x\\.\\w+|compile)\\(.*\\)); *// (-?\\d+|true|false|nothing)\\b(?!\\.).*");
  private static final String MADE = "GatedPile x = new GatedPile();";

  private static final List<String> shown = new ArrayList<>();
  private static final List<String> answers = new ArrayList<>();

  private static List<String> blocks(String readme, String kind) {
    List<String> all = new ArrayList<>();
    Matcher m = Pattern.compile("```" + kind + "\n(.*?)```", Pattern.DOTALL).matcher(readme);
    while (m.find()) all.add(m.group(1));
    return all;
  }

  /** The set of what a pattern's first group finds. */
  private static Set<String> found(String pattern, String text) {
    Set<String> all = new TreeSet<>();
    Matcher m = Pattern.compile(pattern).matcher(text);
    while (m.find()) all.add(m.group(1));
    return all;
  }

  /** The same calls as Java, which keep their answers. */
  private static String statements(String block) {
    StringBuilder java = new StringBuilder("{\n");
    // A call that goes over two lines is one.
    for (String line : block.replaceAll("\n +", " ").split("\n")) {
      Matcher m = ANSWERED.matcher(line);
      if (line.equals(MADE)) {
        java.append(line);
      } else if (!m.matches()) {
        Kit.due("README.md: no call with an answer: " + line, true, false);
      } else if (m.group(2).equals("nothing")) {
        java.append(m.group(1)).append(";");
      } else {
        shown.add(m.group(1));
        answers.add(m.group(2));
        java.append("got.add(String.valueOf(").append(m.group(1)).append("));");
      }
      java.append('\n');
    }
    return java.append("}\n").toString();
  }

  private static String program(List<String> blocks) {
    StringBuilder members = new StringBuilder();
    StringBuilder body = new StringBuilder();
    for (String block : blocks) {
      if (block.startsWith("static ")) members.append(block);
      else body.append(statements(block));
    }
    return "public class Shown {\n" + members + "public static java.util.List<String> answers() {\n"
        + "java.util.List<String> got = new java.util.ArrayList<>();\n" + body + "return got;\n}\n}\n";
  }

  private static List<String> run(String program, Path folder) throws Exception {
    Path file = folder.resolve("Shown.java");
    Files.writeString(file, program);
    String classes = System.getProperty("java.class.path");
    int refused = ToolProvider.getSystemJavaCompiler().run(null, null, null, "-proc:none", "-cp", classes, "-d",
        folder.toString(), file.toString());
    Kit.due("javac of what README.md shows", refused, 0);
    List<String> got = new ArrayList<>();
    if (refused != 0) return got;
    try (URLClassLoader loader = new URLClassLoader(new URL[] {folder.toUri().toURL()}, GatedPile.class.getClassLoader())) {
      for (Object one : (List<?>) loader.loadClass("Shown").getMethod("answers").invoke(null)) got.add(one.toString());
    }
    return got;
  }

  private static long number(String answer) {
    if (answer.equals("true")) return 1;
    return answer.equals("false") ? 0 : Long.parseLong(answer);
  }

  private static void calls(String readme, Path folder) throws Exception {
    List<String> blocks = blocks(readme, "java");
    List<String> got = run(program(blocks), folder);
    Kit.due("answers", got.size(), answers.size());
    for (int i = 0; i < got.size() && i < answers.size(); i++) {
      Kit.due("README.md: " + shown.get(i), number(got.get(i)), number(answers.get(i)));
    }
    Set<String> named = found("x\\.(\\w+)\\(", String.join("", blocks));
    for (Method m : GatedPile.class.getDeclaredMethods()) {
      if (Modifier.isPublic(m.getModifiers())) Kit.due("README.md shows " + m.getName(), named.contains(m.getName()), true);
    }
    for (int what = 0; what <= 10; what++) {
      Kit.due("README.md shows count(" + what + ")", shown.contains("x.count(" + what + ")"), true);
    }
  }

  private static void tables(String readme) throws IOException {
    Set<String> tests = new TreeSet<>();
    try (Stream<Path> files = Files.list(Path.of("src/test/java"))) {
      files.map(f -> f.getFileName().toString()).filter(n -> n.endsWith("Test.java"))
          .forEach(n -> tests.add(n.substring(0, n.length() - 5)));
    }
    Kit.due("tests in README.md's tables: " + tests, found("(?m)^\\| `(\\w+Test)` \\|", readme).equals(tests), true);
    Set<String> inside = new TreeSet<>();
    for (Class<?> c : GatedPile.class.getDeclaredClasses()) inside.add(c.getSimpleName());
    String built = readme.substring(readme.indexOf("| class inside |"), readme.indexOf("## How to run its tests"));
    Set<String> told = new TreeSet<>();
    for (String row : found("(?m)^\\| (`[^|]*) \\|", built)) told.addAll(found("`(\\w+)`", row));
    Kit.due("classes inside: " + inside + " in README.md's table: " + told, told.equals(inside), true);
  }

  /** The way to run the tests: .ci/run itself, and what it does for one test alone. */
  private static void way(String readme) throws Exception {
    String script = Files.readString(Path.of(".ci/run"));
    List<String> blocks = blocks(readme, "sh");
    Kit.due("README.md tells .ci/run", blocks.contains(".ci/run\n"), true);
    Kit.due(".ci/run can be run", Files.isExecutable(Path.of(".ci/run")), true);
    Kit.due("ways for one test", blocks.size(), 3);
    for (String block : blocks) {
      if (block.equals(".ci/run\n")) continue;
      for (String path : found("(src/\\S+)", block)) Kit.due(".ci/run goes by " + path, script.contains(path), true);
      Process p = new ProcessBuilder("sh", "-e", "-c", block).redirectErrorStream(true).start();
      p.getOutputStream().close();
      String printed = new String(p.getInputStream().readAllBytes());
      Kit.due("README.md: " + block + printed, p.waitFor(), 0);
    }
    for (String path : found("`((?:src|\\.\\./shared)/[^`]*)`", readme)) {
      Path folder = Path.of(path.contains("*") ? path.substring(0, path.lastIndexOf('/')) : path);
      Kit.due("README.md: there is " + path, Files.exists(folder), true);
    }
  }

  private static void remove(Path folder) throws IOException {
    try (Stream<Path> all = Files.walk(folder)) {
      for (Path p : all.sorted(Comparator.reverseOrder()).toList()) Files.delete(p);
    }
  }

  public static void main(String[] args) throws Exception {
    String readme = Files.readString(Path.of("README.md"));
    Path folder = Files.createTempDirectory("shown");
    try {
      calls(readme, folder);
    } finally {
      remove(folder);
    }
    tables(readme);
    way(readme);
    Kit.finish();
  }
}
