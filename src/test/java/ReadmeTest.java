import java.io.IOException;
import java.lang.reflect.Method;
import java.lang.reflect.Modifier;
import java.nio.file.Files;
import java.nio.file.Path;
import java.util.HashMap;
import java.util.List;
import java.util.Map;
import java.util.regex.Matcher;
import java.util.regex.Pattern;
import java.util.stream.Collectors;
import java.util.stream.Stream;

/** README.md is right: its examples answer what it says, and it names each call of the face and each test. */
public final class ReadmeTest {
  private static final Due due = new Due();
  private static final Pattern EXAMPLE = Pattern.compile("(?m)^x\\.(\\w+)\\(([^)]*)\\); +// (-?\\d+):");

  public static void main(String[] args) throws IOException, ReflectiveOperationException {
    String readme = Files.readString(Path.of("README.md"));
    Map<String, Method> calls = callsOfTheFace();
    examples(readme, calls);
    for (String call : calls.keySet()) {
      due.is("README: names " + call, readme.contains("`" + call + "`") ? 1 : 0, 1);
    }
    for (String test : tests()) due.is("README: names " + test, readme.contains("| " + test + " |") ? 1 : 0, 1);
    due.end();
  }

  private static Map<String, Method> callsOfTheFace() {
    Map<String, Method> calls = new HashMap<>();
    for (Method m : CoinNotThere.class.getDeclaredMethods()) {
      if (Modifier.isPublic(m.getModifiers())) calls.put(m.getName(), m);
    }
    return calls;
  }

  private static void examples(String readme, Map<String, Method> calls) throws ReflectiveOperationException {
    CoinNotThere x = new CoinNotThere();
    Matcher example = EXAMPLE.matcher(readme);
    int seen = 0;
    while (example.find()) {
      seen++;
      Method call = calls.get(example.group(1));
      due.is("README: there is a call " + example.group(1), call == null ? 0 : 1, 1);
      if (call == null) continue;
      int got = (Integer) call.invoke(x, arguments(call, example.group(2)));
      due.is("README: " + example.group(), got, Integer.parseInt(example.group(3)));
    }
    due.is("README: no line of an example is passed over", seen, readme.lines().filter(l -> l.startsWith("x.")).count());
    due.is("README: there are examples", seen > 0 ? 1 : 0, 1);
  }

  private static Object[] arguments(Method call, String told) {
    String[] words = told.isEmpty() ? new String[0] : told.split(", ");
    Object[] arguments = new Object[words.length];
    for (int i = 0; i < words.length; i++) {
      long v = Long.decode(words[i].replace("L", ""));
      if (call.getParameterTypes()[i] == long.class) {
        arguments[i] = v;
      } else {
        arguments[i] = (int) v;
      }
    }
    return arguments;
  }

  private static List<String> tests() throws IOException {
    try (Stream<Path> files = Files.list(Path.of("src/test/java"))) {
      return files.map(f -> f.getFileName().toString()).filter(n -> n.endsWith("Test.java"))
          .map(n -> n.replace(".java", "")).sorted().collect(Collectors.toList());
    }
  }
}
