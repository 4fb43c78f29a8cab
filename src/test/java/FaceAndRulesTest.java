import java.lang.reflect.Constructor;
import java.lang.reflect.Field;
import java.lang.reflect.Method;
import java.lang.reflect.Modifier;
import java.nio.file.Files;
import java.nio.file.Path;
import java.util.ArrayList;
import java.util.Arrays;
import java.util.List;
import java.util.Set;
import java.util.TreeSet;
import java.util.regex.Matcher;
import java.util.regex.Pattern;

/** The public face, the rules of the language that can be read off, and calls with any numbers. */
public final class FaceAndRulesTest {
  private static final String FACE = "act(int,int)int actOf(int,int,int)int actsOf(int,int)int answer(int)int answers()int "
    + "ask(int,int,int,int)int at(int,int)int closed(int)long count(int)int fresh(int)boolean heap(int)int heaps()int "
    + "keeps(int,int)int law(int,int)int lawOf(int)long laws(int)int made(int)int madeOf(int,int,int)int narrowed(int)int "
    + "pairing(int)int pairings()int quick(int)long riddle(int)boolean row(int,int,int)int signs(int)int size(int,int)int "
    + "tear(int)boolean whole()int write(int,int,long)int";
  private static final Set<String> LIBRARY = Set.of("Arrays.fill", "Arrays.copyOf", "Arrays.copyOfRange", "System.arraycopy",
    "Math.min", "Math.max", "Math.abs", "Math.floorMod", "Math.floorDiv", "Integer.bitCount", "Integer.compare",
    "Integer.min", "Integer.max", "Long.bitCount", "Long.compare", "Long.min", "Long.max");
  private static final String[] BARRED = {"throw", "throws", "try", "catch", "synchronized", "assert", "->", "::",
    "Exact", "volatile", "System.currentTimeMillis", "Random", "Thread", "protected"};
  private static int wrong = 0;

  public static void main(String[] args) throws Exception {
    face();
    source();
    anyNumbers();
    System.out.println("the face, the rules and calls with any numbers: " + wrong + " wrong");
    if (wrong != 0) System.exit(1);
  }

  private static void say(boolean fine, String what) {
    if (!fine) {
      wrong++;
      System.out.println(what);
    }
  }

  private static void face() {
    Set<String> open = new TreeSet<>();
    Set<String> hidden = new TreeSet<>();
    for (Method m : ActBench.class.getDeclaredMethods()) {
      List<String> types = new ArrayList<>();
      for (Class<?> type : m.getParameterTypes()) types.add(type.getName());
      if (Modifier.isPublic(m.getModifiers())) {
        open.add(m.getName() + "(" + String.join(",", types) + ")" + m.getReturnType().getName());
      } else {
        say(Modifier.isPrivate(m.getModifiers()), m + " is seen from outside");
        hidden.add(m.getName());
      }
    }
    say(open.equals(new TreeSet<>(Arrays.asList(FACE.split(" ")))), "the face is " + open);
    shape(ActBench.class);
    for (Class<?> inside : ActBench.class.getDeclaredClasses()) {
      shape(inside);
      say(Modifier.isStatic(inside.getModifiers()), inside + " is not static");
      for (Method m : inside.getDeclaredMethods()) hidden.add(m.getName());
    }
    for (String name : hidden) say(!(" " + FACE).contains(" " + name + "("), name + " has the name of a public one");
    for (Field f : ActBench.class.getDeclaredFields()) {
      boolean isConstant = f.getName().equals("NONE");
      say(isConstant == Modifier.isPublic(f.getModifiers()) && isConstant != Modifier.isPrivate(f.getModifiers()), "field " + f);
      say(!Modifier.isStatic(f.getModifiers()) || Modifier.isFinal(f.getModifiers()), "static field " + f);
    }
    Constructor<?>[] constructors = ActBench.class.getDeclaredConstructors();
    say(constructors.length == 1 && Modifier.isPublic(constructors[0].getModifiers()), "the constructor");
    say(Modifier.isFinal(ActBench.class.getModifiers()), "the class is not final");
    say(ActBench.class.getDeclaredClasses().length < 13, "too many classes");
  }

  /** Rules 5 and 11: static fields are final, a class has some twenty others, a method at most seven parameters. */
  private static void shape(Class<?> type) {
    int fields = 0;
    for (Field f : type.getDeclaredFields()) {
      boolean isStatic = Modifier.isStatic(f.getModifiers());
      say(!isStatic || Modifier.isFinal(f.getModifiers()), "static field " + f);
      fields += isStatic ? 0 : 1;
    }
    say(fields <= 20, type + " has " + fields + " fields");
    for (Method m : type.getDeclaredMethods()) say(m.getParameterCount() <= 7, m + " has too many parameters");
  }

  private static void source() throws Exception {
    String text = Files.readString(Path.of("src/main/java/ActBench.java"));
    String code = text.replaceAll("(?s)/\\*.*?\\*/", "").replaceAll("//[^\n]*", "");
    for (String word : BARRED) {
      boolean isWord = Character.isLetter(word.charAt(0));
      Matcher found = Pattern.compile((isWord ? "\\b" : "") + Pattern.quote(word)).matcher(code);
      say(!found.find(), "the source has " + word);
    }
    Matcher imports = Pattern.compile("import ([^;]+);").matcher(code);
    while (imports.find()) say(imports.group(1).equals("java.util.Arrays"), "import " + imports.group(1));
    methods(code.split("\n"));
    library(code);
    loops(code);
  }

  /** Rule 4: functions that are listed, and no constants of the library. */
  private static void library(String code) {
    Matcher used = Pattern.compile("\\b([A-Z]\\w*)\\s*\\.\\s*(\\w+)(\\s*\\()?").matcher(code);
    Set<String> own = new TreeSet<>();
    for (Class<?> inside : ActBench.class.getDeclaredClasses()) own.add(inside.getSimpleName());
    while (used.find()) {
      if (own.contains(used.group(1))) continue;
      String name = used.group(1) + "." + used.group(2);
      say(used.group(3) != null && LIBRARY.contains(name), "the library's " + name + " is not listed");
    }
  }

  /** Rule 9: a loop's end is seen from its own lines: each is a for with a bound. */
  private static void loops(String code) {
    say(!Pattern.compile("\\b(while|do)\\b").matcher(code).find(), "a loop that is no for");
    Matcher heads = Pattern.compile("\\bfor \\(([^;]*);([^;]*);").matcher(code);
    int found = 0;
    while (heads.find()) {
      found++;
      say(heads.group(2).matches("(?s).*(<|>|<=|>=) .*"), "a loop without a bound: " + heads.group());
    }
    Matcher all = Pattern.compile("\\bfor\\b").matcher(code);
    while (all.find()) found--;
    say(found == 0, "a loop of another form");
  }

  /** Each method ends where a brace stands as far in as its head. */
  private static void methods(String[] lines) {
    for (int head = 0; head < lines.length; head++) {
      String line = lines[head];
      int in = line.length() - line.stripLeading().length();
      if (!line.endsWith(") {") || in != 4 && in != 8 || line.strip().matches("(if|for|switch|}) .*")) continue;
      int end = head + 1;
      while (end < lines.length && !lines[end].equals(" ".repeat(in) + "}")) end++;
      method(line.strip(), Arrays.copyOfRange(lines, head + 1, end));
    }
  }

  /** Rule 11: some sixty lines. Rule 8: one that calls itself is private and static, and carries its depth. */
  private static void method(String head, String[] body) {
    say(body.length < 60, "a method of " + body.length + " lines: " + head);
    String before = head.substring(0, head.indexOf('('));
    String name = before.substring(before.lastIndexOf(' ') + 1);
    boolean callsItself = Pattern.compile("(?<![\\w.])" + name + "\\(").matcher(String.join("\n", body)).find();
    say(!callsItself || head.startsWith("private static") && head.contains("int depth"), "calls itself: " + head);
  }

  /** Whatever the arguments are, an answer comes; a throw would end this test. */
  private static void anyNumbers() throws Exception {
    int[] odd = {Integer.MIN_VALUE, Integer.MIN_VALUE + 1, -65, -2, -1, 0, 1, 2, 3, 4, 7, 8, 12, 13, 26, 27, 31, 32, 40, 41, 64,
      256, 6561, 19683, Integer.MAX_VALUE - 1, Integer.MAX_VALUE};
    for (int state = 0; state < 4; state++) {
      for (Method m : ActBench.class.getDeclaredMethods()) {
        if (!Modifier.isPublic(m.getModifiers())) continue;
        for (int from = 0; from < odd.length; from++) {
          ActBench bench = inState(state);
          for (int call = 0; call < 100; call++) {
            Object[] given = new Object[m.getParameterCount()];
            for (int p = 0; p < given.length; p++) {
              int number = odd[(from + call * (3 * p + 1) + p * 7) % odd.length];
              given[p] = m.getParameterTypes()[p] == long.class ? (Object) (number * 4294967297L) : (Object) number;
            }
            m.invoke(bench, given);
            if (given.length == 0) break;
          }
        }
      }
    }
  }

  private static ActBench inState(int state) {
    ActBench bench = new ActBench();
    if (state == 0) return bench;
    bench.fresh(state == 1 ? 2 : 3);
    bench.row(0, 0, 40);
    for (int i = 0; i < 40; i++) bench.write(0, i, i == 0 && state == 3 ? 2 : i % (state == 1 ? 2 : 3));
    for (int k = 1; k <= 3; k++) {
      bench.act(k, 0);
      bench.law(k, 0);
    }
    bench.riddle(3);
    for (int i = 0; i < 3; i++) bench.ask(i, i, 1, 0);
    return bench;
  }
}
