import java.io.IOException;
import java.lang.reflect.Method;
import java.lang.reflect.Modifier;
import java.nio.file.Files;
import java.nio.file.Path;
import java.util.List;
import java.util.regex.Matcher;
import java.util.regex.Pattern;
import java.util.stream.Stream;

/** README.md: each call in it answers what stands behind it, and each call and test is named in it. */
public final class ReadmeTest {
  static final Due D = new Due("ReadmeTest");
  static final Pattern CALL = Pattern.compile("x\\.(\\w+)\\((.*)\\);\\s+// (-?\\w+)(:.*)?");

  public static void main(String[] args) throws Exception {
    Path root = Path.of(args.length > 0 ? args[0] : ".");
    String page = Files.readString(root.resolve("README.md"));
    int calls = examples(page);
    D.due("calls with answers in README.md", calls >= 40, true);
    for (Method m : RisingSnow.class.getDeclaredMethods()) {
      if (Modifier.isPublic(m.getModifiers())) {
        D.due("README.md names " + m.getName(), page.matches("(?s).*`" + m.getName() + "[`(].*"), true);
      }
    }
    for (String test : testsBelow(root)) {
      D.due("README.md names " + test, page.contains("`" + test + "`"), true);
    }
    D.close();
  }

  static List<String> testsBelow(Path root) throws IOException {
    try (Stream<Path> files = Files.list(root.resolve("src/test/java"))) {
      return files.map(f -> f.getFileName().toString()).filter(f -> f.endsWith("Test.java")).map(f -> f.replace(".java", "")).sorted().toList();
    }
  }

  /** Does the calls that stand in README.md, on one object: how many. */
  static int examples(String page) throws ReflectiveOperationException {
    RisingSnow x = new RisingSnow();
    int calls = 0;
    for (String line : page.split("\n")) {
      Matcher m = CALL.matcher(line);
      if (m.matches()) {
        D.due(m.group(1) + "(" + m.group(2) + ")", answer(x, m.group(1), m.group(2)), told(m.group(3)));
        calls++;
      } else {
        D.due("an answer stands behind " + line, line.startsWith("x."), false);
      }
    }
    return calls;
  }

  static long told(String answer) {
    return switch (answer) {
      case "NONE" -> RisingSnow.NONE;
      case "NOTHING" -> RisingSnow.NOTHING;
      case "true" -> 1;
      case "false" -> 0;
      default -> Long.parseLong(answer);
    };
  }

  static long answer(RisingSnow x, String name, String list) throws ReflectiveOperationException {
    String[] parts = list.isEmpty() ? new String[0] : list.split(", ");
    Class<?>[] types = new Class<?>[parts.length];
    Object[] numbers = new Object[parts.length];
    for (int i = 0; i < parts.length; i++) {
      types[i] = int.class;
      numbers[i] = Long.decode(parts[i]).intValue();
    }
    Object got = RisingSnow.class.getMethod(name, types).invoke(x, numbers);
    if (got instanceof Boolean) {
      return (Boolean) got ? 1 : 0;
    }
    return ((Number) got).longValue();
  }
}
