import java.util.ArrayList;
import java.util.Arrays;
import java.util.List;
import java.util.Random;
import java.util.stream.IntStream;

/** Promises 13 to 15: all that is made, with all sizes, held against the plain bench for drawn acts. */
public final class MadeTest {
  private static final int DRAWS = 1200;
  /** The plain bench tries all ways again and again, so it is spared the large ones. */
  private static final int[] MOST_TRIED = {256, 256, 60};

  /** So many of a list are looked at in one object, which is used for 512 calls at most. */
  private static final int OF_ONE_OBJECT = 100;

  private final Random random;
  private final int d;
  private final List<int[]> acts = new ArrayList<>();
  private final PlainBench plain = new PlainBench();
  private int lists = 0;
  private String wrong = null;

  private MadeTest(int seed) {
    random = new Random(seed);
    d = 2 + seed % 2;
  }

  public static void main(String[] args) {
    MadeTest[] all = IntStream.range(0, DRAWS).parallel().mapToObj(MadeTest::draw).toArray(MadeTest[]::new);
    int lists = 0;
    int wrong = 0;
    for (int seed = 0; seed < DRAWS; seed++) {
      lists += all[seed].lists;
      if (all[seed].wrong != null) {
        wrong++;
        System.out.println("draw " + seed + ": " + all[seed].wrong);
      }
    }
    System.out.println(lists + " lists of made acts, " + wrong + " draws wrong");
    if (wrong != 0 || lists < DRAWS) System.exit(1);
  }

  private static MadeTest draw(int seed) {
    MadeTest draw = new MadeTest(seed);
    draw.go();
    return draw;
  }

  private void go() {
    int most = 0;
    for (int a = random.nextInt(3); a >= 0; a--) most = Math.max(most, draw(1 + random.nextInt(3), random.nextInt(4)));
    plain.fresh(d);
    for (int[] tells : acts) {
      plain.row(0, 0, tells.length);
      for (int r = 0; r < tells.length; r++) plain.write(0, r, tells[r]);
      plain.act(places(tells), 0);
    }
    for (int n = 1; n <= 5 - d; n++) {
      int made = build().made(n);
      boolean isTried = made >= 0 && made <= MOST_TRIED[most - 1] || made == -8 && most < 3;
      if (isTried) hold(n, made);
    }
  }

  /** An act of one of some kinds; those of the first make too much most times, so others come too. */
  private int draw(int k, int kind) {
    int rows = (int) Math.pow(d, k);
    int[] tells = new int[rows];
    int often = random.nextInt(d);
    for (int r = 0; r < rows; r++) {
      boolean isAny = kind == 0 || random.nextInt(2 + kind) == 0;
      tells[r] = isAny ? random.nextInt(d) : kind == 3 ? r / (rows / d) : often;
    }
    acts.add(tells);
    return k;
  }

  private int places(int[] tells) {
    return tells.length == d ? 1 : tells.length == d * d ? 2 : 3;
  }

  private ActBench build() {
    ActBench x = States.empty(d);
    for (int[] tells : acts) States.tellAct(x, places(tells), Arrays.stream(tells).asLongStream().toArray());
    return x;
  }

  private void hold(int n, int made) {
    lists++;
    say("made(" + n + ")", made, plain.made(n));
    ActBench x = build();
    for (int i = 0; i <= Math.max(made, 0); i++) {
      if (i % OF_ONE_OBJECT == 0) x = build();
      for (int what = 0; what < 2; what++) {
        say("madeOf(" + n + ", " + i + ", " + what + ")", x.madeOf(n, i, what), plain.madeOf(n, i, what));
      }
    }
    int codes = (int) Math.pow(d, Math.pow(d, n));
    x = build();
    for (int t = 0; t < OF_ONE_OBJECT; t++) {
      int code = random.nextInt(codes + 1);
      say("size(" + n + ", " + code + ")", x.size(n, code), plain.size(n, code));
    }
  }

  private void say(String call, int got, int due) {
    if (got != due && wrong == null) wrong = call + " answered " + got + ", due is " + due;
  }
}
