import java.nio.charset.StandardCharsets;
import java.nio.file.Files;
import java.nio.file.Path;
import java.util.List;

// What of ../shared/LANGUAGE.md can be seen from the class's text alone.
public final class RuleTests {
  private static final String[] NOT_THERE = {"->", "::", "Exact(", "synchronized", "assert ", "finally", "static {", "try {", "catch",
      "java.io", "java.nio", "System.out", "nanoTime", "currentTimeMillis", "Random", "Thread", "String.format", "Object", "hashCode", "toString"};
  private static boolean wrong = false;

  private static void wrong(String what) {
    wrong = true;
    System.out.println(what);
  }

  public static void main(String[] args) throws Exception {
    List<String> lines = Files.readAllLines(Path.of("src/main/java/StageRatios.java"), StandardCharsets.UTF_8);
    int begun = -1;
    String indent = "";
    for (int i = 0; i < lines.size(); i++) {
      String line = lines.get(i);
      for (int k = 0; k < line.length(); k++)
        if (line.charAt(k) > 126) wrong("a sign beyond 126 in line " + (i + 1));
      for (String no : NOT_THERE) if (line.contains(no)) wrong("'" + no + "' in line " + (i + 1));
      if (line.startsWith("import") && !line.equals("import java.util.NoSuchElementException;")) wrong("line " + (i + 1) + ": " + line);
      if (line.startsWith("package")) wrong("a package");
      if (line.matches(" {4,8}[\\w<>\\[\\] ]+\\(.*\\{") && !line.contains(" class ")) {
        begun = i;
        indent = line.substring(0, line.length() - line.stripLeading().length());
      }
      if (begun >= 0 && line.equals(indent + "}")) {
        if (i - begun > 59) wrong("a long method at line " + (begun + 1));
        begun = -1;
      }
    }
    System.out.println(wrong ? "the rules are not kept" : "the rules are kept");
    if (wrong) System.exit(1);
  }
}
