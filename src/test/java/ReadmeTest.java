import java.lang.reflect.Method;
import java.lang.reflect.Modifier;
import java.nio.file.Files;
import java.nio.file.Path;
import java.util.Set;
import java.util.TreeSet;
import java.util.regex.Matcher;
import java.util.regex.Pattern;

// The example in README.md, made call by call: each line's answer is the one that it names.
public final class ReadmeTest {
  private static final Pattern LINE = Pattern.compile("rows\\.(\\w+)\\((.*?)\\);\\s+// (-?\\d+): .*");

  private static Method methodOf(String name) {
    for (Method m : ExpectRows.class.getMethods())
      if (m.getName().equals(name) && m.getDeclaringClass() == ExpectRows.class) return m;
    throw new IllegalArgumentException("README.md names a call that is none: " + name);
  }

  private static Object[] argumentsOf(Method m, String text) {
    String[] parts = text.split(", ");
    Class<?>[] types = m.getParameterTypes();
    if (parts.length != types.length) throw new IllegalArgumentException(m.getName() + " does not take (" + text + ")");
    Object[] arguments = new Object[parts.length];
    for (int i = 0; i < parts.length; i++) {
      if (types[i] == boolean.class) arguments[i] = Boolean.valueOf(parts[i]);
      else if (types[i] == long.class) arguments[i] = Long.valueOf(parts[i]);
      else arguments[i] = Integer.valueOf(parts[i]);
    }
    return arguments;
  }

  private static Set<String> callsOfTheFace() {
    Set<String> names = new TreeSet<>();
    for (Method m : ExpectRows.class.getDeclaredMethods())
      if (Modifier.isPublic(m.getModifiers())) names.add(m.getName());
    return names;
  }

  public static void main(String[] args) throws Exception {
    ExpectRows rows = new ExpectRows();
    Set<String> missing = callsOfTheFace();
    int wrong = 0;
    for (String line : Files.readAllLines(Path.of("README.md"))) {
      if (!line.startsWith("rows.")) continue;
      Matcher m = LINE.matcher(line);
      if (!m.matches()) {
        wrong++;
        System.out.println("README.md: no answer is named in: " + line);
        continue;
      }
      Method call = methodOf(m.group(1));
      missing.remove(call.getName());
      long got = ((Number) call.invoke(rows, argumentsOf(call, m.group(2)))).longValue();
      if (got == Long.parseLong(m.group(3))) continue;
      wrong++;
      System.out.println("README.md: " + line + " answered " + got);
    }
    if (!missing.isEmpty()) {
      wrong++;
      System.out.println("README.md: the example does not show " + missing);
    }
    System.out.println(wrong == 0 ? "the example is as due" : "the example is not as due");
    if (wrong != 0) System.exit(1);
  }
}
