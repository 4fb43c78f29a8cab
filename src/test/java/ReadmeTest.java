import java.lang.reflect.Method;
import java.nio.file.Files;
import java.nio.file.Path;
import java.util.regex.Matcher;
import java.util.regex.Pattern;

/** The calls that README.md shows answer what it says of them, and its table has all of the face. */
public final class ReadmeTest {
  private static final Pattern CALL = Pattern.compile("bench\\.(\\w+)\\(([^)]*)\\);\\s*// (-?\\d+|true|false)\\b.*");
  private static int wrong = 0;
  private static int calls = 0;

  public static void main(String[] args) throws Exception {
    String text = Files.readString(Path.of("README.md"));
    ActBench bench = null;
    for (String line : text.split("\n")) {
      if (line.startsWith("ActBench bench = new ActBench();")) bench = new ActBench();
      else if (line.startsWith("bench.")) call(bench, line);
    }
    if (calls == 0) wrong++;
    for (Method m : ActBench.class.getDeclaredMethods()) {
      boolean isOpen = java.lang.reflect.Modifier.isPublic(m.getModifiers());
      if (isOpen && !text.contains("`" + m.getName() + "(")) say("README.md does not tell of " + m.getName());
    }
    System.out.println(calls + " calls of README.md, " + wrong + " wrong");
    if (wrong != 0) System.exit(1);
  }

  private static void say(String what) {
    wrong++;
    System.out.println(what);
  }

  private static void call(ActBench bench, String line) throws Exception {
    calls++;
    Matcher read = CALL.matcher(line);
    if (bench == null || !read.matches()) {
      say("a call without an answer: " + line);
      return;
    }
    String[] given = read.group(2).isEmpty() ? new String[0] : read.group(2).split(", ");
    for (Method m : ActBench.class.getDeclaredMethods()) {
      if (!m.getName().equals(read.group(1))) continue;
      Object[] numbers = new Object[given.length];
      for (int p = 0; p < given.length; p++) {
        boolean isLong = m.getParameterTypes()[p] == long.class;
        numbers[p] = isLong ? (Object) Long.valueOf(given[p]) : (Object) Integer.valueOf(given[p]);
      }
      String got = String.valueOf(m.invoke(bench, numbers));
      if (!got.equals(read.group(3))) say(line + " answered " + got);
      return;
    }
    say("there is no such call: " + line);
  }
}
