import java.io.File;
import java.lang.reflect.Method;
import java.nio.charset.StandardCharsets;
import java.nio.file.Files;
import java.nio.file.Path;
import java.util.Comparator;
import java.util.List;
import java.util.stream.Stream;

// README.md says how the class is used and how its tests are run: its program compiles and prints what stands below it,
// each call of the face and each test is named, and .ci/run is told.
public final class ReadmeTests {
  private static boolean wrong = false;

  private static void wrong(String what) {
    wrong = true;
    System.out.println(what);
  }

  /** What stands between a line that begins a block of this sort and the line that ends it. */
  private static String block(List<String> lines, String sort) {
    StringBuilder b = new StringBuilder();
    boolean inside = false;
    for (String line : lines) {
      if (inside && line.equals("```")) return b.toString();
      if (inside) b.append(line).append('\n');
      if (line.equals("```" + sort)) inside = true;
    }
    wrong("README.md has no block " + sort);
    return "";
  }

  /** What a command prints; it must end with 0. */
  private static String printed(String... command) throws Exception {
    Process process = new ProcessBuilder(command).redirectError(ProcessBuilder.Redirect.INHERIT).start();
    process.getOutputStream().close();
    String told = new String(process.getInputStream().readAllBytes(), StandardCharsets.UTF_8).replace("\r\n", "\n");
    if (process.waitFor() != 0) wrong(command[0] + " fails:\n" + told);
    return told;
  }

  private static String run(Path where, String program) throws Exception {
    Path source = where.resolve("Example.java");
    Files.writeString(source, program);
    String path = System.getProperty("java.class.path") + File.pathSeparator + where;
    printed("javac", "-cp", path, "-d", where.toString(), source.toString());
    return printed("java", "-cp", path, "Example");
  }

  private static void remove(Path where) throws Exception {
    try (Stream<Path> all = Files.walk(where)) {
      for (Path p : all.sorted(Comparator.reverseOrder()).toList()) Files.delete(p);
    }
  }

  public static void main(String[] args) throws Exception {
    String readme = Files.readString(Path.of("README.md"));
    List<String> lines = readme.lines().toList();
    Path where = Files.createTempDirectory("readme");
    String told = run(where, block(lines, "java"));
    remove(where);
    if (!told.equals(block(lines, "text"))) wrong("README.md's program prints\n" + told);
    for (Method m : StageRatios.class.getDeclaredMethods())
      if (java.lang.reflect.Modifier.isPublic(m.getModifiers()) && !readme.contains("`" + m.getName() + "("))
        wrong("README.md doesn't name " + m.getName() + "()");
    try (Stream<Path> tests = Files.list(Path.of("tests"))) {
      for (Path t : tests.filter(p -> p.toString().endsWith(".java")).toList()) {
        String name = t.getFileName().toString().replace(".java", "");
        if (!readme.contains("`" + name + "`")) wrong("README.md doesn't name " + name);
      }
    }
    if (!readme.contains(".ci/run")) wrong("README.md doesn't say how the tests are run");
    System.out.println(wrong ? "README.md is not as due" : "README.md is as due");
    if (wrong) System.exit(1);
  }
}
