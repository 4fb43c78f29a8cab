import java.util.HashMap;
import java.util.LinkedHashMap;
import java.util.Map;

/** Counts and prints answers that are not due, and holds objects against each other. */
final class Check {
  /** A call, a boolean answer as 1 or 0. */
  interface Call {
    long on(ActBench x);
  }

  static final Map<String, States.State> STATES = allStates();
  private static final int PARTS = 6;
  private final Map<String, String> untouched = new HashMap<>();
  private int checks = 0;
  private int wrong = 0;

  private static Map<String, States.State> allStates() {
    Map<String, States.State> states = new LinkedHashMap<>();
    for (int d = 2; d <= 3; d++) {
      int things = d;
      states.put("empty " + d, () -> States.empty(things));
      states.put("some " + d, () -> States.some(things));
      states.put("full " + d, () -> States.full(things));
      states.put("rising " + d, () -> States.rising(things));
      states.put("round " + d, () -> States.round(things));
    }
    states.put("new", ActBench::new);
    states.put("too many", States::tooMany);
    return states;
  }

  void due(String what, long got, long want) {
    checks++;
    if (got != want) {
      wrong++;
      System.out.println(what + ": answered " + got + ", due is " + want);
    }
  }

  void due(String what, boolean got, boolean want) {
    due(what, got ? 1 : 0, want ? 1 : 0);
  }

  /** In each state the call has the told answer, and leaves all as it was. */
  void refusedAnywhere(String what, Call call, long answer) {
    for (String state : STATES.keySet()) refusedIn(state, what, call, answer);
  }

  /** The call has the told answer, and an object that heard it looks like one that did not. */
  void refusedIn(String state, String what, Call call, long answer) {
    for (int part = 0; part < PARTS; part++) {
      int which = part;
      String plain = untouched.computeIfAbsent(state + "/" + part, key -> look(STATES.get(state).make(), which));
      ActBench x = STATES.get(state).make();
      due(what + " (" + state + ")", call.on(x), answer);
      checks++;
      if (!look(x, part).equals(plain)) {
        wrong++;
        System.out.println(what + " (" + state + "): it changed something, as part " + part + " of the look tells");
      }
    }
  }

  void end(String name) {
    System.out.println(name + ": " + checks + " checks, " + wrong + " wrong");
    if (wrong != 0) System.exit(1);
  }

  /** What an object answers; in parts, so that none needs more than the calls that an object has. */
  private static String look(ActBench x, int part) {
    StringBuilder out = new StringBuilder();
    switch (part) {
      case 0: lookAtTold(x, out); break;
      case 1: lookAtLaws(x, out); break;
      case 2: lookAtMade(x, out); break;
      case 3: lookAtRiddle(x, out); break;
      case 4: lookAtNumbers(x, out); break;
      default: lookAtLengths(x, out); break;
    }
    return out.toString();
  }

  private static void lookAtTold(ActBench x, StringBuilder out) {
    for (int what = 0; what < 6; what++) out.append(x.count(what)).append(' ');
    for (int a = 0; a < 8; a++) {
      for (int row = 0; row < 27; row++) out.append(x.at(a, row)).append(' ');
    }
    for (int l = 0; l < 12; l++) out.append(x.lawOf(l)).append(' ');
  }

  private static void lookAtLaws(ActBench x, StringBuilder out) {
    for (int l = 0; l < 12; l++) {
      for (int a = 0; a < 8; a++) out.append(x.keeps(a, l)).append(' ');
      out.append(x.closed(l)).append(' ');
    }
    out.append(x.laws(1)).append(' ').append(x.laws(2)).append(' ').append(x.heaps()).append(' ').append(x.pairings()).append(' ');
    for (int mask = 1; mask < 8; mask++) out.append(x.heap(mask)).append(' ');
    for (int i = 0; i < 5; i++) out.append(x.pairing(i)).append(' ');
    for (int a = 0; a < 8; a++) out.append(x.signs(a)).append(' ');
    out.append(x.whole());
  }

  private static void lookAtMade(ActBench x, StringBuilder out) {
    for (int n = 1; n <= 3; n++) {
      out.append(x.made(n)).append(' ');
      for (int i = 0; i < 25; i++) out.append(x.madeOf(n, i, 0)).append(' ').append(x.madeOf(n, i, 1)).append(' ');
      for (int code = 0; code < 20; code++) out.append(x.size(n, code)).append(' ');
      for (int mask = -1; mask < 3; mask++) out.append(x.actsOf(mask, n)).append(' ');
      for (int i = 0; i < 10; i++) out.append(x.actOf(-1, n, i)).append(' ');
    }
  }

  private static void lookAtRiddle(ActBench x, StringBuilder out) {
    for (int u = 0; u < 8; u++) out.append(x.narrowed(u)).append(' ');
    out.append(x.answers()).append(' ');
    for (int i = 0; i < 120; i++) out.append(x.answer(i)).append(' ');
    for (int kind = 0; kind < 3; kind++) out.append(x.quick(kind)).append(' ');
  }

  /** The things among the numbers of each slot, by an act and a law that are told by them. */
  private static void lookAtNumbers(ActBench x, StringBuilder out) {
    for (int slot = 0; slot < 8; slot++) {
      x.fresh(3);
      out.append(x.act(3, slot)).append(' ').append(x.act(1, slot)).append(' ').append(x.law(3, slot)).append(' ');
      for (int row = 0; row < 27; row++) out.append(x.at(0, row)).append(' ');
      out.append(x.lawOf(0)).append(' ');
    }
  }

  /** How many numbers each slot has, and how many bytes they have: a number is cut or is no thing. */
  private static void lookAtLengths(ActBench x, StringBuilder out) {
    for (int slot = 0; slot < 8; slot++) {
      int length = 0;
      for (int step = 32; step > 0; step /= 2) if (x.write(slot, length + step - 1, 0) == 0) length += step;
      out.append(length).append(' ');
      for (int bits = 8; bits <= 32; bits *= 2) {
        x.fresh(2);
        out.append(x.write(slot, 0, 1L << bits)).append(' ').append(x.law(1, slot)).append(' ');
      }
    }
  }
}
