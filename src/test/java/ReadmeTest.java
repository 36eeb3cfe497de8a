import java.io.IOException;
import java.lang.reflect.InvocationTargetException;
import java.lang.reflect.Method;
import java.lang.reflect.Modifier;
import java.nio.charset.StandardCharsets;
import java.nio.file.Files;
import java.nio.file.Path;
import java.util.ArrayList;
import java.util.List;
import java.util.Set;
import java.util.TreeSet;
import java.util.regex.Matcher;
import java.util.regex.Pattern;
import java.util.stream.Stream;

/** What README.md says holds: the answers of its example, and the calls and tests that it lists. */
public final class ReadmeTest {
  private static final Path README = Path.of("README.md");
  private static final Path TESTS = Path.of("src/test/java");
  private static final String NEW = "Splicemonoid x = new Splicemonoid();";
  // A call, and behind the slashes its answer; words of ours may follow behind a colon.
  private static final Pattern CALL =
      Pattern.compile("^x\\.(\\w+)\\(([^)]*)\\); +// (\"[^\"]*\"|throws \\w+|[^ :]+)(?:: .*)?$");
  private static final Pattern NAMED = Pattern.compile("`(\\w+)`");

  public static void main(String[] args) throws IOException {
    List<String> lines = Files.readAllLines(README, StandardCharsets.UTF_8);
    example(lines);
    Due.is("the calls", () -> namedIn(lines, "| calls |"), face().toString());
    Due.is("the tests", () -> namedIn(lines, "| test |"), tests().toString());
    Due.is("tests are run by", () -> lines.contains("    .ci/run"), true);
    Due.is(".ci/run can be run", () -> Files.isExecutable(Path.of(".ci/run")), true);
    Due.end("ReadmeTest");
  }

  // ---- the example

  private static void example(List<String> lines) {
    List<String> example = between(lines, "```java", "```");
    Due.is("the example begins with", () -> example.get(0), NEW);
    Splicemonoid x = new Splicemonoid();
    for (String line : example.subList(1, example.size())) {
      Matcher call = CALL.matcher(line);
      boolean isCall = call.matches();
      Due.is("a call with its answer: " + line, () -> isCall, true);
      if (isCall) {
        String numbers = call.group(2);
        Due.is(line, () -> told(x, call.group(1), numbers.split(", ")), call.group(3));
      }
    }
  }

  private static String told(Splicemonoid x, String name, String[] numbers) {
    try {
      Object answer = method(name).invoke(x, arguments(method(name), numbers));
      return answer instanceof String ? "\"" + answer + "\"" : String.valueOf(answer);
    } catch (InvocationTargetException e) {
      return "throws " + e.getCause().getClass().getSimpleName();
    } catch (ReflectiveOperationException e) {
      return e.toString();
    }
  }

  private static Method method(String name) throws NoSuchMethodException {
    for (Method method : Splicemonoid.class.getDeclaredMethods()) {
      if (Modifier.isPublic(method.getModifiers()) && method.getName().equals(name)) {
        return method;
      }
    }
    throw new NoSuchMethodException(name);
  }

  private static Object[] arguments(Method method, String[] numbers) {
    Class<?>[] types = method.getParameterTypes();
    Object[] arguments = new Object[types.length];
    for (int i = 0; i < types.length; i++) {
      boolean isTruth = types[i] == boolean.class;
      arguments[i] = isTruth ? (Object) numbers[i].equals("true") : Integer.valueOf(numbers[i]);
    }
    return arguments;
  }

  // ---- what it lists

  private static Set<String> face() {
    Set<String> names = new TreeSet<>();
    for (Method method : Splicemonoid.class.getDeclaredMethods()) {
      if (Modifier.isPublic(method.getModifiers())) {
        names.add(method.getName());
      }
    }
    return names;
  }

  private static Set<String> tests() throws IOException {
    Set<String> names = new TreeSet<>();
    try (Stream<Path> files = Files.list(TESTS)) {
      files.map(file -> file.getFileName().toString())
          .filter(name -> name.endsWith("Test.java"))
          .forEach(name -> names.add(name.replace(".java", "")));
    }
    return names;
  }

  /** The names in the first column of the table that has such a heading. */
  private static Set<String> namedIn(List<String> lines, String heading) {
    Set<String> names = new TreeSet<>();
    for (String row : between(lines, heading, "")) {
      Matcher named = NAMED.matcher(row.substring(0, row.indexOf('|', 1)));
      while (named.find()) {
        names.add(named.group(1));
      }
    }
    return names;
  }

  /** The lines behind the first one that begins so, up to the first one that is the end. */
  private static List<String> between(List<String> lines, String beginning, String end) {
    List<String> found = new ArrayList<>();
    boolean isInside = false;
    for (String line : lines) {
      if (isInside && line.equals(end)) {
        return found;
      }
      if (isInside) {
        found.add(line);
      }
      isInside = isInside || line.startsWith(beginning);
    }
    return found;
  }
}
