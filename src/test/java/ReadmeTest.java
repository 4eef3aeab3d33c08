import java.io.IOException;
import java.lang.reflect.InvocationTargetException;
import java.lang.reflect.Method;
import java.nio.file.Files;
import java.nio.file.Path;
import java.util.Arrays;
import java.util.List;
import java.util.Set;
import java.util.TreeSet;
import java.util.regex.Matcher;
import java.util.regex.Pattern;
import java.util.stream.Stream;

/** README.md is held against the class, the tests and .ci/run as they are. */
public final class ReadmeTest {
  private static final Path TESTS = Path.of("src/test/java");
  private static final Pattern ANSWERED = Pattern.compile("x\\.(\\w+)\\(([^)]*)\\);\\s*// (-?\\w+): .+");
  private static final Pattern FED = Pattern.compile("for \\(.* : \"(.*)\"\\.toCharArray\\(\\)\\) x\\.feed\\(letter\\);");

  public static void main(String[] args) throws IOException, IllegalAccessException {
    String page = Files.readString(Path.of("README.md"));
    example(between(page, "```java\n", "```"));
    calls(page, Files.readString(Path.of(args.length > 0 ? args[0] : "src/main/java/DrawerCards.java")));
    refusals(page);
    String told = between(page, "| test | promises |", "\n\n");
    tests(told);
    boundaries(told);
    script(page);
    Checks.end("ReadmeTest");
  }

  private static String between(String text, String first, String last) {
    int from = text.indexOf(first);
    int to = from < 0 ? -1 : text.indexOf(last, from + first.length());
    Checks.tell(to >= 0, "README.md has no part from " + first.trim() + " on");
    return to < 0 ? "" : text.substring(from + first.length(), to);
  }

  private static Set<String> all(String pattern, String text) {
    Set<String> found = new TreeSet<>();
    Matcher m = Pattern.compile(pattern).matcher(text);
    while (m.find()) found.add(m.group(1));
    return found;
  }

  /** Every line of the example is made, in its order, on one object. */
  private static void example(String lines) throws IllegalAccessException {
    DrawerCards x = new DrawerCards();
    int answered = 0;
    for (String line : lines.split("\n")) {
      Matcher call = ANSWERED.matcher(line);
      Matcher fed = FED.matcher(line);
      if (call.matches()) {
        answered++;
        Checks.due("README.md: " + line, made(x, call.group(1), call.group(2)), number(call.group(3)));
      } else if (fed.matches()) Checks.feed(x, fed.group(1));
      else Checks.tell(line.isEmpty() || line.equals("DrawerCards x = new DrawerCards();"), "not known: " + line);
    }
    Checks.tell(answered > 0, "the example asks nothing");
  }

  private static int made(DrawerCards x, String name, String numbers) throws IllegalAccessException {
    Object[] given = Arrays.stream(numbers.split(", ")).filter(n -> !n.isEmpty()).map(Integer::valueOf).toArray();
    for (Method m : DrawerCards.class.getDeclaredMethods()) {
      if (!m.getName().equals(name) || m.getParameterCount() != given.length) continue;
      try {
        return (Integer) m.invoke(x, given);
      } catch (InvocationTargetException e) {
        Checks.tell(false, name + " has thrown " + e.getCause());
      }
    }
    Checks.tell(false, "there is no call " + name + " of " + given.length);
    return 0;
  }

  private static int number(String answer) {
    switch (answer) {
      case "NONE": return DrawerCards.NONE;
      case "BAD": return DrawerCards.BAD;
      case "STATE": return DrawerCards.STATE;
      case "FULL": return DrawerCards.FULL;
      default: return Integer.parseInt(answer);
    }
  }

  private static void calls(String page, String source) {
    Set<String> told = all("`(\\w+\\([^`]*\\))`", between(page, "| call | what it is for |", "\n\n"));
    Set<String> are = new TreeSet<>();
    for (String call : all("public int (\\w+\\([^)]*\\))", source)) are.add(call.replace("int ", ""));
    Checks.tell(are.size() == 31, are.size() + " public calls in the source");
    Checks.tell(told.equals(are), "README.md tells the calls " + told + ", the class has " + are);
  }

  private static void refusals(String page) {
    Set<String> named = all("\\| (`[A-Z]+` \\(-\\d+\\))", page);
    Checks.tell(named.size() == 4, "README.md names the answers " + named);
    for (String answer : named) {
      String[] parts = answer.split("[` ()]+");
      Checks.due("README.md: " + answer, number(parts[1]), Integer.parseInt(parts[2]));
    }
  }

  private static void tests(String told) throws IOException {
    Set<String> are = new TreeSet<>();
    try (Stream<Path> files = Files.list(TESTS)) {
      files.map(f -> f.getFileName().toString()).filter(f -> f.endsWith("Test.java"))
          .forEach(f -> are.add(f.substring(0, f.length() - ".java".length())));
    }
    Set<String> named = all("\n\\| `(\\w+)` \\|", told);
    Checks.tell(named.equals(are), "README.md tells the tests " + named + ", there are " + are);
  }

  private static void boundaries(String told) throws IOException {
    boolean[] promised = new boolean[33];
    Matcher m = Pattern.compile("\n\\| `(\\w+EdgesTest)` \\| boundaries of (\\d+) to (\\d+) \\|").matcher(told);
    while (m.find()) {
      String runs = "run(" + m.group(1) + ".class, " + m.group(2) + ", " + m.group(3) + ");";
      String source = Files.readString(TESTS.resolve(m.group(1) + ".java"));
      Checks.tell(source.contains(runs), m.group(1) + " has other promises than README.md tells");
      int last = Integer.parseInt(m.group(3));
      for (int n = Integer.parseInt(m.group(2)); n <= last && n < promised.length; n++) promised[n] = true;
    }
    for (int n = 1; n < promised.length; n++) Checks.tell(promised[n], "README.md tells no test of promise " + n);
  }

  private static void script(String page) throws IOException {
    Path path = Path.of(".ci/run");
    Checks.tell(page.contains("`sh " + path + "`"), "README.md does not say how to run the tests");
    Checks.tell(Files.isExecutable(path), path + " cannot be executed");
    String script = Files.readString(path);
    for (String part : List.of(TESTS + "/*Test.java", "../shared/tests", "src/main/java/DrawerCards.java")) {
      Checks.tell(script.contains(part), path + " does not name " + part);
    }
  }
}
