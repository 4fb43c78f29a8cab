import java.util.ArrayList;
import java.util.List;
import java.util.Random;
import java.util.stream.IntStream;

/** Runs of calls, drawn with told seeds, whose answers are held against those of the plain bench. */
public final class RandomRunsTest {
  private static final int CALLS = 512;
  private final int seed;
  private final Random random;
  private final ActBench bench = new ActBench();
  private final PlainBench plain = new PlainBench();
  private final List<String> told = new ArrayList<>();
  private int d = 2;
  private int calls = 0;
  private boolean wrong = false;
  private long due = 0;

  private RandomRunsTest(int seed) {
    this.seed = seed;
    random = new Random(seed);
  }

  public static void main(String[] args) {
    int from = args.length > 0 ? Integer.parseInt(args[0]) : 0;
    int to = args.length > 1 ? Integer.parseInt(args[1]) : 150;
    List<RandomRunsTest> runs = IntStream.range(from, to).parallel().mapToObj(RandomRunsTest::run).toList();
    long calls = runs.stream().mapToLong(run -> run.calls).sum();
    long wrong = runs.stream().filter(run -> run.wrong).count();
    for (RandomRunsTest run : runs) if (run.wrong) run.tell();
    System.out.println((to - from) + " random runs, " + calls + " calls, " + wrong + " runs wrong");
    if (wrong != 0) System.exit(1);
  }

  private static RandomRunsTest run(int seed) {
    RandomRunsTest run = new RandomRunsTest(seed);
    run.go();
    return run;
  }

  private void tell() {
    System.out.println("seed " + seed + ":");
    for (String line : told) System.out.println(line);
    System.out.println("the last one is wrong, due is " + due);
  }

  private void go() {
    if (random.nextInt(3) != 0) fresh(2 + random.nextInt(2));
    while (calls < CALLS - 60 && !wrong) {
      int pick = random.nextInt(20);
      if (pick < 3) tellAct();
      else if (pick < 6) tellLaw();
      else if (pick == 6) askMade(1 + random.nextInt(3));
      else if (pick == 7) raw();
      else if (pick < 10) pose();
      else if (pick == 10 && random.nextInt(6) == 0) fresh(2 + random.nextInt(2));
      else if (pick == 11 && random.nextInt(12) == 0) tellUntilFull(random.nextInt(3));
      else query();
    }
  }

  private void due(String call, long got, long want) {
    if (wrong) return;
    calls++;
    told.add(call + " = " + got);
    if (got != want) {
      wrong = true;
      due = want;
    }
  }

  private void fresh(int things) {
    boolean got = bench.fresh(things);
    due("fresh(" + things + ")", got ? 1 : 0, plain.fresh(things) ? 1 : 0);
    if (got) d = things;
  }

  /** Mostly 0 to most, at times one beyond, seldom far beyond. */
  private int near(int most) {
    int pick = random.nextInt(60);
    if (pick == 0) return random.nextInt();
    if (pick < 5) return pick % 2 == 0 ? -1 : most + 1;
    return random.nextInt(most + 1);
  }

  private void row(int slot, int width, int n) {
    due("row(" + slot + ", " + width + ", " + n + ")", bench.row(slot, width, n), plain.row(slot, width, n));
  }

  private void write(int slot, int i, long v) {
    due("write(" + slot + ", " + i + ", " + v + ")", bench.write(slot, i, v), plain.write(slot, i, v));
  }

  private void act(int k, int slot) {
    due("act(" + k + ", " + slot + ")", bench.act(k, slot), plain.act(k, slot));
  }

  private void law(int k, int slot) {
    due("law(" + k + ", " + slot + ")", bench.law(k, slot), plain.law(k, slot));
  }

  private void tellAct() {
    if (plain.count(1) > random.nextInt(5)) return;
    int k = 1 + random.nextInt(3);
    int rows = (int) Math.pow(d, k);
    int slot = random.nextInt(8);
    row(slot, random.nextInt(4), rows + random.nextInt(2));
    int kind = random.nextInt(9);
    int other = random.nextInt(d);
    for (int r = 0; r < rows; r++) {
      int thing = thing(kind, k, r, other);
      if (thing != 0) write(slot, r, thing);
    }
    act(k, slot);
  }

  /** Acts of some kinds that leave something: any act whatever makes too much to be of use. */
  private int thing(int kind, int k, int r, int other) {
    int a = k > 2 ? r / (d * d) : k > 1 ? r / d : r;
    int b = k > 2 ? r / d % d : r % d;
    int c = r % d;
    int[] row = {a, b, c};
    switch (kind) {
      case 0: return random.nextInt(d);
      case 1: return Math.min(a, Math.min(b, c));
      case 2: return Math.max(a, Math.max(b, c));
      case 3: return (a - b + c + d) % d;
      case 4: return other;
      case 5: return row[random.nextInt(3)];
      case 6: return a == b || a == c ? a : b == c ? b : row[random.nextInt(3)];
      case 7: return random.nextInt(2);
      default: return random.nextInt(rowsOf(k)) < 2 ? random.nextInt(d) : row[other];
    }
  }

  private int rowsOf(int k) {
    return (int) Math.pow(d, k);
  }

  private void tellLaw() {
    if (plain.count(2) > random.nextInt(14)) return;
    int k = 1 + random.nextInt(3);
    int most = Math.min(13, (int) Math.pow(d, k) + 1);
    int rows = random.nextInt(most + 1);
    int slot = random.nextInt(8);
    row(slot, random.nextInt(4), Math.min(40, 1 + rows * k + random.nextInt(2)));
    write(slot, 0, rows);
    int kind = random.nextInt(4);
    for (int r = 0; r < rows; r++) {
      int last = random.nextInt(d);
      for (int p = 0; p < k; p++) {
        if (kind != 0 || p == 0) last = random.nextInt(kind == 1 ? 2 : d);
        if (last != 0) write(slot, 1 + r * k + p, last);
      }
    }
    law(k, slot);
  }

  private void askMade(int n) {
    int got = bench.made(n);
    due("made(" + n + ")", got, plain.made(n));
    for (int t = 0; t < 4; t++) {
      int i = near(Math.max(got, 1));
      int what = near(1);
      due("madeOf(" + n + ", " + i + ", " + what + ")", bench.madeOf(n, i, what), plain.madeOf(n, i, what));
      int code = near(d == 2 ? n == 1 ? 3 : n == 2 ? 15 : 255 : n == 1 ? 26 : 19682);
      if (t < 3 && got > 0) code = bench.madeOf(n, random.nextInt(got), 0);
      due("size(" + n + ", " + code + ")", bench.size(n, code), plain.size(n, code));
    }
    if (got > 0) {
      due("last of made(" + n + ")", bench.madeOf(n, got - 1, 1), plain.madeOf(n, got - 1, 1));
      calls++;
    }
  }

  /** More acts, laws or asks than there can be. */
  private void tellUntilFull(int what) {
    int slot = random.nextInt(8);
    row(slot, random.nextInt(4), 27 + random.nextInt(14));
    write(slot, 1 + random.nextInt(2), random.nextInt(d));
    write(slot, 0, random.nextInt(d));
    for (int i = what == 0 ? 8 : what == 1 ? 12 : 30; i >= 0; i--) {
      int u = plain.count(3);
      if (what == 0) act(1 + random.nextInt(3), slot);
      else if (what == 1) law(1 + random.nextInt(3), slot);
      else ask(0, random.nextInt(u), random.nextInt(u), random.nextInt(u));
    }
  }

  private void raw() {
    int slot = near(7);
    switch (random.nextInt(6)) {
      case 0: row(slot, near(3), near(40)); break;
      case 1: due("tear(" + slot + ")", bench.tear(slot) ? 1 : 0, plain.tear(slot) ? 1 : 0); break;
      case 2: act(near(3), slot); break;
      case 3: law(near(3), slot); break;
      case 4: write(slot, near(9), random.nextLong()); break;
      default: write(slot, near(3), (long) random.nextInt(4) << 8 * random.nextInt(5) | random.nextInt(3)); break;
    }
  }

  private void pose() {
    if (random.nextInt(5) == 0) {
      int u = near(8);
      due("riddle(" + u + ")", bench.riddle(u) ? 1 : 0, plain.riddle(u) ? 1 : 0);
    }
    for (int t = random.nextInt(4); t >= 0; t--) {
      int l = near(Math.max(plain.count(2) - 1, 0));
      int most = plain.count(3) - 1;
      int x = near(most);
      int y = near(most);
      int z = near(most);
      ask(l, x, y, z);
    }
  }

  private void ask(int l, int x, int y, int z) {
    due("ask(" + l + ", " + x + ", " + y + ", " + z + ")", bench.ask(l, x, y, z), plain.ask(l, x, y, z));
  }

  private void query() {
    int a = near(Math.max(plain.count(1) - 1, 0));
    int l = near(Math.max(plain.count(2) - 1, 0));
    int n = near(3);
    int i = near(9);
    int mask = random.nextInt(3) == 0 ? random.nextInt() : 1 << random.nextInt(12);
    switch (random.nextInt(19)) {
      case 0: due("at(" + a + ", " + i + ")", bench.at(a, i), plain.at(a, i)); break;
      case 1: due("lawOf(" + l + ")", bench.lawOf(l), plain.lawOf(l)); break;
      case 2: due("keeps(" + a + ", " + l + ")", bench.keeps(a, l), plain.keeps(a, l)); break;
      case 3: due("closed(" + l + ")", bench.closed(l), plain.closed(l)); break;
      case 4: due("laws(" + n + ")", bench.laws(n), plain.laws(n)); break;
      case 5: due("actsOf(" + mask + ", " + n + ")", bench.actsOf(mask, n), plain.actsOf(mask, n)); break;
      case 6:
        int some = random.nextInt(Math.max(bench.actsOf(mask, n), 0) + 2) - 1;
        due("actOf(" + mask + ", " + n + ", " + some + ")", bench.actOf(mask, n, some), plain.actOf(mask, n, some));
        calls++;
        break;
      case 7: due("heaps()", bench.heaps(), plain.heaps()); break;
      case 8: due("heap(" + i + ")", bench.heap(i), plain.heap(i)); break;
      case 9: due("pairings()", bench.pairings(), plain.pairings()); break;
      case 10: due("pairing(" + (i - 2) + ")", bench.pairing(i - 2), plain.pairing(i - 2)); break;
      case 11: due("signs(" + a + ")", bench.signs(a), plain.signs(a)); break;
      case 12: due("whole()", bench.whole(), plain.whole()); break;
      case 13: due("narrowed(" + i + ")", bench.narrowed(i), plain.narrowed(i)); break;
      case 14: due("answers()", bench.answers(), plain.answers()); break;
      case 15:
        int one = random.nextInt(bench.answers() + 2) - 1;
        due("answer(" + one + ")", bench.answer(one), plain.answer(one));
        calls++;
        break;
      case 16: due("quick(" + n + ")", bench.quick(n), plain.quick(n)); break;
      case 17: due("quick(" + (n % 3) + ")", bench.quick(n % 3), plain.quick(n % 3)); break;
      default: due("count(" + i + ")", bench.count(i), plain.count(i)); break;
    }
  }
}
