import java.io.IOException;
import java.lang.reflect.Method;
import java.nio.file.Files;
import java.nio.file.Path;
import java.util.ArrayList;
import java.util.List;
import java.util.Set;
import java.util.TreeSet;
import java.util.regex.Matcher;
import java.util.regex.Pattern;
import java.util.stream.Stream;

/** What README.md says is so: its calls answer what stands behind them, its list of tests is the tests there are. */
public final class FogCutsReadme {
  private static final String MADE = "FogCuts fog = new FogCuts();";
  private static final Pattern CALL = Pattern.compile("fog\\.(\\w+)\\((.*)\\); +// (-?\\d+|[A-Z]+(?: \\+ [A-Z]+)?)(?:: .*)?");
  private static final Pattern LISTED = Pattern.compile("(?m)^- `(\\w+)`: ");
  private static int wrong = 0, calls = 0;

  private static void say(String what) { wrong++; System.out.println(what); }

  private static List<String> block(String readme, String kind) {
    List<String> lines = new ArrayList<>();
    Matcher found = Pattern.compile("(?s)```" + kind + "\n(.*?)```").matcher(readme);
    while (found.find()) for (String line : found.group(1).split("\n")) if (!line.isBlank()) lines.add(line);
    if (lines.isEmpty()) say("nothing of the kind " + kind);
    return lines;
  }

  /** A number, or constants of the class by their names, added. */
  private static long number(String text) throws ReflectiveOperationException {
    if (text.matches("-?\\d+")) return Long.parseLong(text);
    long sum = 0;
    for (String name : text.split(" \\+ ")) sum += ((Number) FogCuts.class.getField(name).get(null)).longValue();
    return sum;
  }
  private static Object[] arguments(String text) {
    if (text.isEmpty()) return new Object[0];
    String[] all = text.split(", ");
    Object[] out = new Object[all.length];
    for (int i = 0; i < all.length; i++) out[i] = all[i].matches("'.'") ? (int) all[i].charAt(1) : Integer.parseInt(all[i]);
    return out;
  }
  private static Method named(String name) {
    for (Method m : FogCuts.class.getMethods()) if (m.getName().equals(name)) return m;
    throw new IllegalArgumentException("no such call: " + name);
  }

  private static void use(List<String> lines) throws ReflectiveOperationException {
    FogCuts fog = null;
    for (String line : lines) {
      Matcher call = CALL.matcher(line);
      if (line.equals(MADE)) {
        fog = new FogCuts();
      } else if (call.matches()) {
        calls++;
        long got = ((Number) named(call.group(1)).invoke(fog, arguments(call.group(2)))).longValue();
        if (got != number(call.group(3))) say(line + " -- answered " + got);
      } else if (!line.startsWith("// ")) {
        say("neither a call with its answer nor a comment: " + line);
      }
    }
    if (calls > 512) say("more calls than an object is used for");
  }

  private static void listed(String readme) throws IOException {
    Set<String> told = new TreeSet<>(), there = new TreeSet<>();
    Matcher found = LISTED.matcher(readme);
    while (found.find()) told.add(found.group(1));
    try (Stream<Path> files = Files.list(Path.of("src/test/java"))) {
      files.forEach(file -> there.add(file.getFileName().toString().replace(".java", "")));
    }
    if (!told.equals(there)) say("the tests are " + there + ", told are " + told);
  }

  private static void paths(String readme) {
    Matcher found = Pattern.compile("(?:src|\\.ci)/[\\w./]*\\w").matcher(readme);
    while (found.find()) if (!Files.exists(Path.of(found.group()))) say("there is no " + found.group());
  }

  public static void main(String[] args) throws IOException, ReflectiveOperationException {
    String readme = Files.readString(Path.of("README.md"));
    use(block(readme, "java"));
    block(readme, "sh");
    listed(readme);
    paths(readme);
    System.out.println(wrong == 0 ? "README.md is so (" + calls + " calls)" : wrong + " things in README.md are not so");
    if (wrong != 0) System.exit(1);
  }
}
