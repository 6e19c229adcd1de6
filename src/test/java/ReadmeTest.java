import java.io.IOException;
import java.lang.reflect.InvocationTargetException;
import java.lang.reflect.Method;
import java.nio.file.Files;
import java.nio.file.Path;
import java.util.Set;
import java.util.TreeSet;
import java.util.regex.Matcher;
import java.util.regex.Pattern;

/** The examples of README.md are made, call by call, and answer what stands behind them. */
public final class ReadmeTest {
  private static final Pattern BLOCK = Pattern.compile("(?s)```java\n(.*?)```");
  private static final Pattern BEACH = Pattern.compile("for \\(char letter : \"([^\"]*)\".*");
  private static final Pattern CALL =
      Pattern.compile("x\\.(\\w+)\\(([^)]*)\\); +// (-?\\d+)(:.*)?");

  private final EldestSays x = new EldestSays();
  private final Set<String> shown = new TreeSet<>();

  public static void main(String[] args) throws IOException, ReflectiveOperationException {
    String page = Files.readString(Path.of("README.md"));
    ReadmeTest test = new ReadmeTest();
    Matcher block = BLOCK.matcher(page);
    while (block.find()) {
      for (String line : block.group(1).split("\n")) {
        test.look(line);
      }
    }
    test.allAreShown();
    Due.due("it says how to run the tests", page.contains("    .ci/run\n") ? 1 : 0, 1);
    Due.end();
  }

  private void look(String line) throws ReflectiveOperationException {
    Matcher beach = BEACH.matcher(line);
    Matcher call = CALL.matcher(line);
    if (beach.matches()) {
      Due.feed(x, beach.group(1));
      shown.add("feed");
    } else if (call.matches()) {
      String name = call.group(1);
      shown.add(name);
      Due.due(line, answer(name, call.group(2)), Long.parseLong(call.group(3)));
    } else {
      boolean isFrame = line.matches("EldestSays x = new EldestSays\\(\\);|  x.feed\\(letter\\);|\\}");
      Due.due("a line that can be looked at: " + line, isFrame ? 1 : 0, 1);
    }
  }

  private long answer(String name, String arguments) throws ReflectiveOperationException {
    String[] told = arguments.isEmpty() ? new String[0] : arguments.split(", ");
    for (Method m : EldestSays.class.getMethods()) {
      if (m.getName().equals(name) && m.getParameterCount() == told.length) {
        return ((Number) m.invoke(x, values(m, told))).longValue();
      }
    }
    throw new InvocationTargetException(null, "no call " + name);
  }

  private static Object[] values(Method m, String[] told) {
    Object[] values = new Object[told.length];
    for (int k = 0; k < told.length; k++) {
      boolean isTruth = m.getParameterTypes()[k] == boolean.class;
      values[k] = isTruth ? (Object) Boolean.valueOf(told[k]) : (Object) Integer.valueOf(told[k]);
    }
    return values;
  }

  private void allAreShown() {
    for (Method m : EldestSays.class.getMethods()) {
      if (m.getDeclaringClass() == EldestSays.class) {
        Due.due("README.md shows " + m.getName(), shown.contains(m.getName()) ? 1 : 0, 1);
      }
    }
  }
}
