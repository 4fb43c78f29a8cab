import java.util.TreeSet;

/** For each promise of the document: ordinary inputs, the edges that it names, and wrong inputs. */
public final class PromisesTest {
  private static int wrong = 0;
  private static int checks = 0;

  public static void main(String[] args) {
    newObject();
    fresh();
    row();
    tear();
    write();
    act();
    actRefusals();
    law();
    lawRefusals();
    at();
    lawOf();
    keeps();
    closed();
    laws();
    made();
    madeTooMany();
    madeOf();
    size();
    actsOf();
    actOf();
    heaps();
    heap();
    pairings();
    signs();
    whole();
    riddle();
    ask();
    narrowed();
    answers();
    quickOfTwo();
    quickOfThree();
    count();
    System.out.println(checks + " checks of promises, " + wrong + " wrong");
    if (wrong != 0) System.exit(1);
  }

  private static void due(String what, long got, long want) {
    checks++;
    if (got != want) {
      wrong++;
      System.out.println(what + " answered " + got + ", due is " + want);
    }
  }

  private static void due(String what, boolean got, boolean want) {
    due(what, got ? 1 : 0, want ? 1 : 0);
  }

  private static ActBench of(int d) {
    ActBench x = new ActBench();
    x.fresh(d);
    return x;
  }

  private static void fill(ActBench x, int slot, long... numbers) {
    x.row(slot, 3, numbers.length);
    for (int i = 0; i < numbers.length; i++) x.write(slot, i, numbers[i]);
  }

  private static int tellAct(ActBench x, int k, long... tells) {
    fill(x, 7, tells);
    return x.act(k, 7);
  }

  /** The rows as one number each, digit by digit: 12 is the row 1, 2. */
  private static int tellLaw(ActBench x, int k, int... rows) {
    long[] numbers = new long[1 + rows.length * k];
    numbers[0] = rows.length;
    for (int r = 0; r < rows.length; r++) {
      int rest = rows[r];
      for (int p = k; p >= 1; p--) {
        numbers[r * k + p] = rest % 10;
        rest /= 10;
      }
    }
    fill(x, 7, numbers);
    return x.law(k, 7);
  }

  private static final long[] AND = {0, 0, 0, 1};
  private static final long[] OR = {0, 1, 1, 1};
  private static final long[] NOT = {1, 0};
  private static final long[] MIN3 = {0, 0, 0, 0, 1, 1, 0, 1, 2};

  private static void newObject() {
    ActBench x = new ActBench();
    int[] counts = {2, 0, 0, 1, 0, 0};
    for (int what = 0; what < 6; what++) due("1: count(" + what + ")", x.count(what), counts[what]);
    for (int slot = 0; slot < 8; slot++) due("1: tear(" + slot + ")", x.tear(slot), false);
    due("1: answers()", x.answers(), 2);
    due("1: NONE", ActBench.NONE, -1);
  }

  private static void fresh() {
    ActBench x = new ActBench();
    tellAct(x, 1, NOT);
    tellLaw(x, 1, 0);
    x.riddle(3);
    x.ask(0, 2, 0, 0);
    for (int d : new int[] {1, 4, 0, -2, Integer.MAX_VALUE}) due("2: fresh(" + d + ")", x.fresh(d), false);
    int[] kept = {2, 1, 1, 3, 1, 1};
    for (int what = 0; what < 6; what++) due("2: refused, count(" + what + ")", x.count(what), kept[what]);
    due("2: fresh(3)", x.fresh(3), true);
    int[] left = {3, 0, 0, 1, 0, 1};
    for (int what = 0; what < 6; what++) due("2: count(" + what + ")", x.count(what), left[what]);
    due("2: made(2) of three", x.made(2), 2);
    due("2: actsOf of three", x.actsOf(0, 1), 27);
    due("2: answers of three", x.answers(), 3);
    due("2: fresh(2)", x.fresh(2), true);
    due("2: actsOf of two", x.actsOf(0, 1), 4);
    due("2: answers of two", x.answers(), 2);
    due("2: the slot stays", x.law(1, 7), 0);
  }

  private static void row() {
    ActBench x = new ActBench();
    due("3: row(0, 0, 0)", x.row(0, 0, 0), 0);
    due("3: row(7, 3, 40)", x.row(7, 3, 40), 0);
    due("3: slots", x.count(5), 2);
    due("3: no slot", x.row(8, 0, 1), -2);
    due("3: no slot", x.row(-1, 0, 1), -2);
    due("3: no width", x.row(0, 4, 1), -2);
    due("3: no width", x.row(0, -1, 1), -2);
    due("3: above 40", x.row(0, 0, 41), -2);
    due("3: below 0", x.row(0, 0, -1), -3);
    due("3: below 0", x.row(0, 0, Integer.MIN_VALUE), -3);
    due("3: width ahead of n", x.row(0, 4, -1), -2);
    due("3: slot ahead of n", x.row(8, 0, -1), -2);
    fill(x, 1, 1, 1);
    due("3: refused", x.row(1, 0, -1), -3);
    due("3: what was there stays", x.act(1, 1), 0);
    due("3: it tells 1", x.at(0, 0), 1);
    due("3: in place of another", x.row(1, 0, 2), 0);
    due("3: all 0", x.act(1, 1), 1);
    due("3: it tells 0", x.at(1, 0), 0);
    due("3: it tells 0", x.at(1, 1), 0);
    due("3: shorter", x.row(1, 0, 1), 0);
    due("3: ends", x.act(1, 1), -6);
  }

  private static void tear() {
    ActBench x = new ActBench();
    due("4: nothing there", x.tear(0), false);
    due("4: none such", x.tear(8), false);
    due("4: none such", x.tear(-1), false);
    x.row(0, 0, 0);
    due("4: a row of none", x.tear(0), true);
    due("4: again", x.tear(0), false);
    due("4: nothing left", x.write(0, 0, 0), -5);
    due("4: slots", x.count(5), 0);
    tellAct(x, 1, NOT);
    tellLaw(x, 1, 1);
    due("4: the slot of an act", x.tear(7), true);
    due("4: the act stays", x.at(0, 0), 1);
    due("4: the law stays", x.lawOf(0), 2);
  }

  private static void write() {
    ActBench x = new ActBench();
    due("5: no slot ahead of nothing", x.write(8, 0, 0), -2);
    due("5: no slot", x.write(-1, 0, 0), -2);
    due("5: nothing ahead of no number", x.write(0, -1, 0), -5);
    x.row(0, 0, 2);
    due("5: no number", x.write(0, 2, 0), -6);
    due("5: no number", x.write(0, -1, 0), -6);
    long[] justAbove = {1L << 8, 1L << 16, 1L << 32};
    for (int width = 0; width < 4; width++) {
      x.fresh(2);
      x.row(0, width, 2);
      due("5: plain", x.write(0, 0, 1), 0);
      due("5: it stays in its width", x.act(1, 0), 0);
      for (int w = 0; w < 3; w++) {
        x.write(0, 0, justAbove[w] + 1);
        boolean isCut = w >= width;
        due("5: width " + width + " cuts " + justAbove[w], x.act(1, 0) >= 0, isCut);
      }
      x.write(0, 0, -1);
      due("5: less than no thing", x.act(1, 0), -4);
      x.write(0, 0, Long.MIN_VALUE);
      due("5: the topmost bit", x.act(1, 0) >= 0, width < 3);
    }
  }

  private static void act() {
    ActBench x = new ActBench();
    due("6: first", tellAct(x, 2, 0, 1, 1, 0, 9), 0);
    due("6: what is behind does not matter", x.at(0, 3), 0);
    due("6: second", tellAct(x, 1, NOT), 1);
    x.write(7, 0, 0);
    due("6: it is the bench's own", x.at(1, 0), 1);
    ActBench y = of(3);
    long[] tells = new long[27];
    for (int i = 0; i < 27; i++) tells[i] = (i * i + 1) % 3;
    due("6: of three", tellAct(y, 3, tells), 0);
    for (int i = 0; i < 27; i++) due("6: at(0, " + i + ")", y.at(0, i), tells[i]);
  }

  private static void actRefusals() {
    ActBench x = new ActBench();
    x.row(0, 0, 8);
    due("6: no places", x.act(0, 0), -2);
    due("6: no places", x.act(4, 0), -2);
    due("6: no slot", x.act(1, -1), -2);
    due("6: no slot", x.act(1, 8), -2);
    due("6: nothing", x.act(1, 1), -5);
    fill(x, 2, 0);
    due("6: ends ahead", x.act(1, 2), -6);
    fill(x, 2, 2);
    due("6: no thing comes ahead of the end", x.act(1, 2), -4);
    fill(x, 2, 0, 0, 0);
    due("6: ends", x.act(2, 2), -6);
    fill(x, 2, 0, 0, 2);
    due("6: no thing", x.act(2, 2), -4);
    due("6: three", x.act(3, 0), 0);
    due("6: three", x.act(3, 0), 1);
    due("6: a third one of three", x.act(3, 0), -8);
    due("6: too many ahead of nothing", x.act(3, 1), -8);
    due("6: no slot ahead of too many", x.act(3, 8), -2);
    for (int a = 2; a < 8; a++) due("6: act " + a, x.act(1 + a % 2, 0), a);
    due("6: a ninth", x.act(1, 0), -8);
    due("6: too many ahead of nothing", x.act(1, 1), -8);
    due("6: no places ahead of too many", x.act(4, 0), -2);
    due("6: refused ones are not there", x.count(1), 8);
    x.fresh(3);
    due("6: a row too short for three", x.act(3, 0), -6);
    fill(x, 3, 2, 2, 2);
    due("6: a third thing", x.act(1, 3), 0);
    fill(x, 3, 2, 3, 2);
    due("6: no fourth", x.act(1, 3), -4);
    x.row(4, 0, 26);
    due("6: 26 are too few", x.act(3, 4), -6);
    x.row(4, 0, 27);
    due("6: 27 are enough", x.act(3, 4), 1);
  }

  private static void law() {
    ActBench x = of(3);
    due("7: of two places", tellLaw(x, 2, 12, 20, 12), 0);
    due("7: a row comes again", x.lawOf(0), 1 << 5 | 1 << 6);
    due("7: of three", tellLaw(x, 3, 0, 222, 120), 1);
    due("7: of three", x.lawOf(1), 1 | 1 << 26 | 1 << 15);
    due("7: without rows", tellLaw(x, 3), 2);
    due("7: without rows", x.lawOf(2), 0);
    x.row(0, 0, 28);
    x.write(0, 0, 27);
    due("7: 27 rows", x.law(1, 0), 3);
    due("7: 27 rows", x.lawOf(3), 1);
    fill(x, 1, 1, 2, 9, 9);
    due("7: what is behind does not matter", x.law(1, 1), 4);
    x.write(1, 1, 0);
    due("7: it is the bench's own", x.lawOf(4), 4);
  }

  private static void lawRefusals() {
    ActBench x = new ActBench();
    x.row(0, 0, 1);
    due("7: no places", x.law(0, 0), -2);
    due("7: no places", x.law(4, 0), -2);
    due("7: no slot", x.law(1, 8), -2);
    due("7: no slot", x.law(1, -1), -2);
    due("7: nothing", x.law(1, 1), -5);
    x.row(2, 0, 0);
    due("7: not even how many", x.law(1, 2), -6);
    fill(x, 2, 28);
    due("7: too many rows", x.law(1, 2), -4);
    fill(x, 2, -1);
    due("7: less than none", x.law(1, 2), -4);
    fill(x, 2, 2, 1);
    due("7: ends", x.law(1, 2), -6);
    fill(x, 2, 2, 1, 2);
    due("7: no thing", x.law(1, 2), -4);
    fill(x, 2, 3, 2);
    due("7: no thing comes ahead of the end", x.law(1, 2), -4);
    fill(x, 2, 1, 1);
    due("7: ends in a row", x.law(2, 2), -6);
    x.row(3, 0, 40);
    x.write(3, 0, 14);
    due("7: 14 rows of three have no room", x.law(3, 3), -6);
    x.write(3, 0, 13);
    due("7: 13 rows of three have", x.law(3, 3), 0);
    for (int l = 1; l < 12; l++) due("7: law " + l, x.law(1, 0), l);
    due("7: a thirteenth", x.law(1, 0), -8);
    due("7: too many ahead of nothing", x.law(1, 1), -8);
    due("7: no slot ahead of too many", x.law(1, 8), -2);
    due("7: refused ones are not there", x.count(2), 12);
  }

  private static void at() {
    ActBench x = of(3);
    due("8: none", x.at(0, 0), -1);
    tellAct(x, 1, 2, 0, 1);
    tellAct(x, 2, 0, 1, 2, 1, 2, 0, 2, 0, 1);
    due("8: first", x.at(0, 0), 2);
    due("8: last", x.at(0, 2), 1);
    due("8: no row", x.at(0, 3), -1);
    due("8: no row", x.at(0, -1), -1);
    due("8: row 1, 2", x.at(1, 5), 0);
    due("8: last of two", x.at(1, 8), 1);
    due("8: no row of two", x.at(1, 9), -1);
    due("8: no act", x.at(2, 0), -1);
    due("8: no act", x.at(-1, 0), -1);
  }

  private static void lawOf() {
    ActBench x = of(3);
    due("9: none", x.lawOf(0), -1);
    tellLaw(x, 3, 222);
    due("9: the last bit", x.lawOf(0), 1L << 26);
    due("9: no law", x.lawOf(1), -1);
    due("9: no law", x.lawOf(-1), -1);
  }

  private static void keeps() {
    ActBench x = new ActBench();
    tellAct(x, 2, AND);
    tellAct(x, 1, NOT);
    tellAct(x, 3, 0, 0, 0, 1, 0, 1, 1, 1);
    tellLaw(x, 2, 0, 1, 11);
    tellLaw(x, 2, 1, 10, 11);
    tellLaw(x, 3, 0, 11, 101, 110);
    tellLaw(x, 1);
    int[][] wanted = {{1, 0, 0, 1}, {0, 0, 0, 1}, {1, 1, 0, 1}};
    for (int a = 0; a < 3; a++) {
      for (int l = 0; l < 4; l++) due("10: keeps(" + a + ", " + l + ")", x.keeps(a, l), wanted[a][l]);
    }
    due("10: no law", x.keeps(0, 4), -1);
    due("10: no act", x.keeps(3, 0), -1);
    due("10: below", x.keeps(-1, 0), -1);
    due("10: below", x.keeps(0, -1), -1);
    // This act tells 1 for 0, 1, 2 alone: only three rows in their order show what isn't kept.
    ActBench y = of(3);
    long[] tells = new long[27];
    tells[5] = 1;
    tellAct(y, 3, tells);
    tellLaw(y, 1, 0, 2);
    tellLaw(y, 1, 0, 1, 2);
    tellLaw(y, 3, 0, 10, 101, 20, 202);
    tellLaw(y, 3, 0, 10, 120, 211);
    due("10: a part", y.keeps(0, 0), 1);
    due("10: all", y.keeps(0, 1), 1);
    due("10: what comes is there already", y.keeps(0, 2), 1);
    due("10: 0, 1, 2 at the first place", y.keeps(0, 3), 0);
    tellLaw(y, 3, 0, 10, 101);
    due("10: nowhere", y.keeps(0, 4), 1);
  }

  private static void closed() {
    ActBench x = new ActBench();
    due("11: none", x.closed(0), -1);
    tellLaw(x, 3, 1, 10, 100);
    due("11: without acts", x.closed(0), 2 | 4 | 16);
    tellAct(x, 2, AND);
    due("11: with one", x.closed(0), 1 | 2 | 4 | 16);
    tellAct(x, 1, NOT);
    due("11: with two", x.closed(0), 255);
    due("11: the law itself stays", x.lawOf(0), 2 | 4 | 16);
    tellLaw(x, 2);
    due("11: without rows", x.closed(1), 0);
    due("11: no law", x.closed(2), -1);
    due("11: no law", x.closed(-1), -1);
    ActBench y = of(3);
    tellAct(y, 1, 1, 2, 0);
    tellLaw(y, 2, 1);
    due("11: a round of three", y.closed(0), 1 << 1 | 1 << 5 | 1 << 6);
    tellAct(y, 2, MIN3);
    tellLaw(y, 3, 12);
    due("11: turned and the lesser ones, of 0, 1, 2", y.closed(1), closeByHand());
  }

  /** All that comes of the row 0, 1, 2 by turning on and by the lesser ones of two rows. */
  private static long closeByHand() {
    boolean[] has = new boolean[27];
    has[5] = true;
    for (int round = 0; round < 30; round++) {
      for (int r = 0; r < 27; r++) {
        for (int s = 0; s < 27; s++) {
          if (!has[r] || !has[s]) continue;
          int turned = (r / 9 + 1) % 3 * 9 + (r / 3 % 3 + 1) % 3 * 3 + (r % 3 + 1) % 3;
          int least = Math.min(r / 9, s / 9) * 9 + Math.min(r / 3 % 3, s / 3 % 3) * 3 + Math.min(r % 3, s % 3);
          has[turned] = true;
          has[least] = true;
        }
      }
    }
    long set = 0;
    for (int r = 0; r < 27; r++) if (has[r]) set |= 1L << r;
    return set;
  }

  private static void laws() {
    ActBench x = new ActBench();
    due("12: all of one", x.laws(1), 4);
    due("12: all of two", x.laws(2), 16);
    due("12: no three", x.laws(3), -1);
    due("12: none of 0", x.laws(0), -1);
    due("12: none below", x.laws(-1), -1);
    tellAct(x, 1, NOT);
    due("12: not, of one", x.laws(1), 2);
    due("12: not, of two", x.laws(2), 4);
    x.fresh(3);
    due("12: three, of one", x.laws(1), 8);
    due("12: three, of two", x.laws(2), 512);
    due("12: none of three", x.laws(3), -1);
    tellAct(x, 1, 1, 2, 0);
    due("12: a round, of one", x.laws(1), 2);
    due("12: a round, of two", x.laws(2), 8);
    tellAct(x, 3, new long[27]);
    due("12: all tell 0 too", x.laws(1), 2);
  }

  private static void made() {
    ActBench x = new ActBench();
    for (int n = 1; n <= 3; n++) due("13: places alone", x.made(n), n);
    due("13: no places", x.made(0), -1);
    due("13: too many places", x.made(4), -1);
    due("13: below", x.made(-1), -1);
    tellAct(x, 2, AND);
    due("13: and, of three", x.made(3), 7);
    tellAct(x, 2, OR);
    due("13: rising ones of three", x.made(3), 18);
    tellAct(x, 1, NOT);
    due("13: all of three", x.made(3), 256);
    due("13: all of two", x.made(2), 16);
    x.fresh(3);
    due("13: none of three of three", x.made(3), -1);
    tellAct(x, 2, 0, 1, 2, 1, 2, 0, 2, 0, 1);
    due("13: sums of one", x.made(1), 3);
    due("13: sums of two", x.made(2), 9);
  }

  private static void madeTooMany() {
    ActBench x = of(3);
    tellAct(x, 2, 1, 1, 0, 1, 2, 2, 0, 2, 0);
    tellAct(x, 2, MIN3);
    tellAct(x, 1, 1, 2, 0);
    due("13: all of one", x.made(1), 27);
    due("13: too many", x.made(2), -8);
    due("14: none then", x.madeOf(2, 0, 0), -1);
    due("14: none then", x.madeOf(2, 0, 1), -1);
    due("15: none then", x.size(2, 0), -8);
    due("15: none then", x.size(2, 19682), -8);
    due("15: of one there are", x.size(1, 21), 0);
    due("15: another n", x.size(3, 0), -1);
    x.fresh(3);
    due("13: few again", x.made(2), 2);
  }

  private static void madeOf() {
    ActBench x = new ActBench();
    tellAct(x, 2, AND);
    tellAct(x, 2, OR);
    int[][] wanted = {{10, 0}, {12, 0}, {8, 1}, {14, 1}};
    for (int i = 0; i < 4; i++) {
      for (int what = 0; what < 2; what++) due("14: " + i + ", " + what, x.madeOf(2, i, what), wanted[i][what]);
    }
    due("14: no more", x.madeOf(2, 4, 0), -1);
    due("14: none below", x.madeOf(2, -1, 0), -1);
    due("14: another what", x.madeOf(2, 0, 2), -1);
    due("14: another what", x.madeOf(2, 0, -1), -1);
    due("14: another n", x.madeOf(4, 0, 0), -1);
    due("14: another n", x.madeOf(0, 0, 0), -1);
    due("14: first of three by codes", x.madeOf(3, 0, 0), 0b10101010);
    due("14: second", x.madeOf(3, 1, 0), 0b11001100);
    due("14: third", x.madeOf(3, 2, 0), 0b11110000);
    tellAct(x, 1, NOT);
    due("14: made anew with a new act", x.madeOf(2, 2, 0), 3);
    due("14: made anew with a new act", x.madeOf(1, 1, 0), 1);
    ActBench y = of(3);
    tellAct(y, 1, 1, 2, 0);
    int[] sizes = {0, 0, 1, 1, 2, 2};
    TreeSet<Integer> seen = new TreeSet<>();
    for (int i = 0; i < 6; i++) {
      seen.add(y.madeOf(2, i, 0));
      due("14: turned on, size of " + i, y.madeOf(2, i, 1), sizes[i]);
      if (i % 2 == 1) due("14: by codes", y.madeOf(2, i - 1, 0) < y.madeOf(2, i, 0), true);
    }
    due("14: six of them", seen.size(), 6);
    due("14: last place of two", y.size(2, codeOf(0, 1, 2, 0, 1, 2, 0, 1, 2)), 0);
    due("14: first place of two", y.size(2, codeOf(0, 0, 0, 1, 1, 1, 2, 2, 2)), 0);
    due("14: first place turned", y.size(2, codeOf(1, 1, 1, 2, 2, 2, 0, 0, 0)), 1);
    due("14: last place turned twice", y.size(2, codeOf(2, 0, 1, 2, 0, 1, 2, 0, 1)), 2);
  }

  private static int codeOf(int... tells) {
    int code = 0;
    for (int r = tells.length - 1; r >= 0; r--) code = code * 3 + tells[r];
    return code;
  }

  private static void size() {
    ActBench x = new ActBench();
    tellAct(x, 3, 0, 1, 1, 0, 1, 0, 0, 1);
    due("15: the sum of three", x.size(3, 150), 1);
    due("15: a place", x.size(3, 240), 0);
    due("15: not made", x.size(3, 0), -7);
    due("15: no such code", x.size(3, 256), -1);
    due("15: no such code", x.size(3, -1), -1);
    due("15: no such code", x.size(2, 16), -1);
    due("15: no such code", x.size(1, 4), -1);
    due("15: another n", x.size(0, 0), -1);
    due("15: another n", x.size(4, 0), -1);
    tellAct(x, 1, NOT);
    due("15: the sum and one more", x.size(3, 105), 2);
    tellAct(x, 2, AND);
    due("15: always 0", x.size(1, 0), 2);
    due("15: always 1", x.size(1, 3), 3);
    due("15: or, the sum of a, b and their and", x.size(2, 14), 2);
    ActBench y = of(3);
    due("15: no such code of three", y.size(2, 19683), -1);
    due("15: no such code of three", y.size(1, 27), -1);
    due("15: not made", y.size(2, 19682), -7);
    due("15: another n", y.size(3, 0), -1);
  }

  private static void actsOf() {
    ActBench x = new ActBench();
    int[] all = {4, 16, 256};
    for (int n = 1; n <= 3; n++) due("16: without laws", x.actsOf(-1, n), all[n - 1]);
    due("16: another n", x.actsOf(0, 0), -1);
    due("16: another n", x.actsOf(0, 4), -1);
    tellLaw(x, 2, 0, 1, 11);
    tellLaw(x, 1, 0);
    tellLaw(x, 1, 1);
    tellLaw(x, 2, 1, 10);
    tellLaw(x, 3, 0, 11, 101, 110);
    due("16: rising", x.actsOf(1, 3), 20);
    due("16: keeping 0", x.actsOf(2, 3), 128);
    due("16: keeping 0 and 1", x.actsOf(6, 3), 64);
    due("16: turning over", x.actsOf(8, 3), 16);
    due("16: sums that keep 0", x.actsOf(16, 3), 8);
    due("16: rising and keeping 0, 1", x.actsOf(7, 2), 4);
    due("16: all", x.actsOf(-1, 3), 3);
    due("16: bits beyond don't count", x.actsOf(~31, 2), 16);
    x.fresh(3);
    due("16: of three", x.actsOf(0, 1), 27);
    due("16: of three", x.actsOf(0, 2), 19683);
    due("16: none of three places", x.actsOf(0, 3), -1);
    tellLaw(x, 1, 0, 1);
    due("16: into 0, 1", x.actsOf(1, 2), 16 * 243);
    tellLaw(x, 2, 0, 11, 22);
    due("16: the same law of all", x.actsOf(2, 2), 19683);
    tellLaw(x, 2, 0, 1, 2, 11, 12, 22);
    due("16: rising of three, one place", x.actsOf(4, 1), 10);
    due("16: rising of three, two places", x.actsOf(4, 2), 175);
    tellLaw(x, 2);
    due("16: a law without rows", x.actsOf(8, 1), 27);
  }

  private static void actOf() {
    ActBench x = new ActBench();
    tellLaw(x, 2, 0, 1, 11);
    int[] rising = {0, 8, 10, 12, 14, 15};
    for (int i = 0; i < 6; i++) due("17: rising " + i, x.actOf(1, 2, i), rising[i]);
    due("17: no more", x.actOf(1, 2, 6), -1);
    due("17: none below", x.actOf(1, 2, -1), -1);
    due("17: another n", x.actOf(1, 0, 0), -1);
    due("17: another n", x.actOf(1, 4, 0), -1);
    for (int i = 0; i < 256; i++) due("17: all", x.actOf(0, 3, i), i);
    due("17: another law changes nothing", tellLaw(x, 1, 0), 1);
    due("17: bits beyond now count", x.actOf(2, 1, 1), 2);
    x.fresh(3);
    due("17: last of all", x.actOf(0, 2, 19682), 19682);
    due("17: behind the last", x.actOf(0, 2, 19683), -1);
    due("17: another n", x.actOf(0, 3, 0), -1);
    tellLaw(x, 1, 2);
    due("17: keeping 2", x.actOf(1, 1, 0), 18);
    due("17: keeping 2", x.actOf(1, 2, 0), 2 * 6561);
    due("17: keeping 2", x.actOf(1, 2, 6560), 19682);
  }

  private static void heaps() {
    ActBench x = new ActBench();
    due("18: all sets of two", x.heaps(), 3);
    tellAct(x, 2, AND);
    due("18: and", x.heaps(), 3);
    tellAct(x, 1, NOT);
    due("18: not", x.heaps(), 1);
    x.fresh(3);
    due("18: all sets of three", x.heaps(), 7);
    tellAct(x, 1, 1, 0, 2);
    due("18: two changed", x.heaps(), 3);
    tellAct(x, 2, 0, 0, 2, 0, 1, 2, 0, 2, 2);
    due("18: and 1, 2 leave none alone", x.heaps(), 3);
    tellAct(x, 1, 2, 2, 2);
    due("18: all have 2", x.heaps(), 2);
  }

  private static void heap() {
    ActBench x = of(3);
    for (int mask = 1; mask <= 7; mask++) due("19: without acts", x.heap(mask), mask);
    due("19: none", x.heap(0), -1);
    due("19: beyond", x.heap(8), -1);
    due("19: below", x.heap(-1), -1);
    tellAct(x, 1, 1, 0, 2);
    due("19: 0 brings 1", x.heap(1), 3);
    due("19: 2 alone", x.heap(4), 4);
    due("19: 2 and 1", x.heap(6), 7);
    ActBench y = of(3);
    tellAct(y, 2, 0, 2, 0, 2, 1, 1, 0, 1, 2);
    due("19: two bring a third", y.heap(3), 7);
    due("19: two that don't", y.heap(5), 5);
    ActBench z = new ActBench();
    due("19: beyond of two", z.heap(4), -1);
    due("19: all of two", z.heap(3), 3);
  }

  private static void pairings() {
    ActBench x = of(3);
    int[] all = {0, 4, 20, 32, 36};
    due("20: all", x.pairings(), 5);
    for (int i = 0; i < 5; i++) due("21: " + i, x.pairing(i), all[i]);
    due("21: no more", x.pairing(5), -1);
    due("21: none below", x.pairing(-1), -1);
    tellAct(x, 2, MIN3);
    int[] kept = {0, 20, 32, 36};
    due("20: the lesser one", x.pairings(), 4);
    for (int i = 0; i < 4; i++) due("21: " + i, x.pairing(i), kept[i]);
    due("21: no more", x.pairing(4), -1);
    tellAct(x, 1, 1, 2, 0);
    due("20: and a round", x.pairings(), 2);
    ActBench y = new ActBench();
    due("20: of two", y.pairings(), 2);
    due("21: of two", y.pairing(1), 4);
    due("21: no more of two", y.pairing(2), -1);
    // Rows may differ at all places at once.
    ActBench z = of(3);
    long[] tells = new long[27];
    for (int r = 0; r < 27; r++) tells[r] = r / 9 == 2 || r / 3 % 3 == 2 || r % 3 == 2 ? 2 : 0;
    tellAct(z, 3, tells);
    due("20: of three places", z.pairings(), 4);
    due("21: 0, 2 in one part", z.pairing(1), 4);
    due("21: 0, 1 in one part", z.pairing(2), 32);
  }

  private static void signs() {
    ActBench x = new ActBench();
    due("22: none", x.signs(0), -1);
    tellAct(x, 2, AND);
    tellAct(x, 1, NOT);
    tellAct(x, 2, 0, 1, 1, 0);
    tellAct(x, 1, 1, 1);
    tellAct(x, 3, 0, 0, 0, 1, 0, 1, 1, 1);
    tellAct(x, 3, 1, 0, 0, 1, 0, 1, 1, 0);
    tellAct(x, 1, 0, 1);
    tellAct(x, 2, 1, 1, 0, 1);
    int[] wanted = {7, 24, 17, 22, 15, 24, 31, 2};
    for (int a = 0; a < 8; a++) due("22: signs(" + a + ")", x.signs(a), wanted[a]);
    due("22: none such", x.signs(8), -1);
    due("22: none below", x.signs(-1), -1);
    x.fresh(3);
    tellAct(x, 1, 0, 1, 2);
    due("22: of three", x.signs(0), -1);
  }

  private static void whole() {
    ActBench x = new ActBench();
    due("23: without acts", x.whole(), 0);
    tellAct(x, 2, AND);
    due("23: and", x.whole(), 0);
    tellAct(x, 1, NOT);
    due("23: and, not", x.whole(), 1);
    x.fresh(2);
    tellAct(x, 2, 0, 1, 1, 0);
    tellAct(x, 2, AND);
    due("23: without 1", x.whole(), 0);
    tellAct(x, 1, 1, 1);
    due("23: with 1", x.whole(), 1);
    x.fresh(2);
    tellAct(x, 1, NOT);
    tellAct(x, 3, 0, 0, 0, 1, 0, 1, 1, 1);
    due("23: all turn over", x.whole(), 0);
    x.fresh(2);
    tellAct(x, 1, NOT);
    tellAct(x, 2, 0, 1, 1, 0);
    due("23: all are sums", x.whole(), 0);
    x.fresh(3);
    due("23: of three", x.whole(), -1);
  }

  private static void riddle() {
    ActBench x = new ActBench();
    tellLaw(x, 1, 1);
    x.ask(0, 0, 0, 0);
    due("24: none", x.riddle(0), false);
    due("24: nine", x.riddle(9), false);
    due("24: below", x.riddle(-1), false);
    due("24: refused, asks stay", x.count(4), 1);
    due("24: refused, answers stay", x.answers(), 1);
    due("24: eight", x.riddle(8), true);
    due("24: unknowns", x.count(3), 8);
    due("24: no asks", x.count(4), 0);
    due("24: all answers", x.answers(), 256);
    due("24: one", x.riddle(1), true);
    due("24: one", x.answers(), 2);
  }

  private static void ask() {
    ActBench x = new ActBench();
    due("25: no law", x.ask(0, 0, 0, 0), -2);
    tellLaw(x, 1, 1);
    tellLaw(x, 2, 1);
    tellLaw(x, 3, 1);
    x.riddle(3);
    due("25: one place, others don't matter", x.ask(0, 2, -5, 99), 0);
    due("25: two places", x.ask(1, 0, 2, -1), 1);
    due("25: three places", x.ask(2, 0, 1, 2), 2);
    due("25: no unknown", x.ask(0, 3, 0, 0), -2);
    due("25: no unknown", x.ask(0, -1, 0, 0), -2);
    due("25: no unknown at the second", x.ask(1, 0, 3, 0), -2);
    due("25: no unknown at the third", x.ask(2, 0, 0, 3), -2);
    due("25: no unknown at the third", x.ask(2, 0, 0, -1), -2);
    due("25: no law", x.ask(3, 0, 0, 0), -2);
    due("25: no law", x.ask(-1, 0, 0, 0), -2);
    due("25: refused ones are not there", x.count(4), 3);
    for (int i = 3; i < 30; i++) due("25: ask " + i, x.ask(0, 2, 0, 0), i);
    due("25: a thirty-first", x.ask(0, 2, 0, 0), -8);
    due("25: no unknown ahead of too many", x.ask(0, 3, 0, 0), -2);
    due("25: no law ahead of too many", x.ask(3, 0, 0, 0), -2);
  }

  private static void narrowed() {
    ActBench x = of(3);
    tellLaw(x, 2, 1, 2, 12);
    tellLaw(x, 2, 1, 10);
    tellLaw(x, 2, 0, 11, 22);
    tellLaw(x, 1);
    x.riddle(5);
    for (int u = 0; u < 5; u++) due("26: without asks", x.narrowed(u), 7);
    x.ask(0, 0, 1, 0);
    x.ask(0, 1, 2, 0);
    due("26: less than two others", x.narrowed(0), 1);
    due("26: between", x.narrowed(1), 2);
    due("26: the greatest", x.narrowed(2), 4);
    due("26: not asked", x.narrowed(3), 7);
    due("26: no unknown", x.narrowed(5), -1);
    due("26: none below", x.narrowed(-1), -1);
    x.ask(0, 2, 3, 0);
    for (int u = 0; u < 4; u++) due("26: nothing left", x.narrowed(u), 0);
    due("26: what is not tied stays", x.narrowed(4), 7);
    x.riddle(2);
    x.ask(1, 0, 1, 0);
    x.ask(2, 0, 1, 0);
    due("26: each ask alone leaves them", x.narrowed(0), 3);
    due("26: though there is no answer", x.answers(), 0);
    x.ask(1, 0, 0, 0);
    due("26: one that stands twice", x.narrowed(0), 0);
    x.riddle(1);
    x.ask(3, 0, 0, 0);
    due("26: a law without rows", x.narrowed(0), 0);
    tellLaw(x, 3, 12, 110, 221, 1);
    x.riddle(2);
    x.ask(4, 0, 1, 0);
    due("26: first and third the same", x.narrowed(0), 0);
    tellLaw(x, 3, 12, 121, 20);
    x.riddle(2);
    x.ask(5, 0, 1, 0);
    due("26: first and third the same", x.narrowed(0), 3);
    due("26: what stands between", x.narrowed(1), 4);
  }

  private static void answers() {
    ActBench x = of(3);
    tellLaw(x, 2, 1, 2, 10, 12, 20, 21);
    x.riddle(8);
    due("27: all", x.answers(), 6561);
    due("28: last", x.answer(6560), 6560);
    due("28: behind", x.answer(6561), -1);
    due("28: below", x.answer(-1), -1);
    x.riddle(3);
    x.ask(0, 0, 1, 0);
    x.ask(0, 1, 2, 0);
    due("27: a row of three", x.answers(), 12);
    x.ask(0, 2, 0, 0);
    due("27: a ring of three", x.answers(), 6);
    int[] wanted = {5, 7, 11, 15, 19, 21};
    for (int i = 0; i < 6; i++) due("28: " + i, x.answer(i), wanted[i]);
    due("28: no more", x.answer(6), -1);
    x.ask(0, 1, 1, 0);
    due("27: one that differs from itself", x.answers(), 0);
    due("28: none", x.answer(0), -1);
    tellLaw(x, 3, 12);
    x.riddle(4);
    x.ask(1, 3, 1, 0);
    due("27: one row at told unknowns", x.answers(), 3);
    due("28: unknown 0 counts most", x.answer(0), 2 * 27 + 9);
    due("28: the free one", x.answer(2), 2 * 27 + 9 + 2 * 3);
  }

  private static void quickOfTwo() {
    ActBench x = new ActBench();
    tellLaw(x, 2, 1, 10, 11);
    tellLaw(x, 3, 1, 10, 100, 111);
    tellLaw(x, 3, 1, 10, 100);
    tellLaw(x, 2, 0, 1, 10);
    x.riddle(3);
    due("29: without asks, a half", x.quick(0), 8);
    due("29: without asks, a most", x.quick(1), 232);
    due("29: without asks, the sum", x.quick(2), 150);
    due("29: another kind", x.quick(3), -1);
    due("29: another kind", x.quick(-1), -1);
    x.ask(0, 0, 1, 0);
    due("29: or keeps it, and does not", x.quick(0), 14);
    due("29: most keeps it", x.quick(1), 232);
    due("29: the sum does not", x.quick(2), -7);
    x.ask(3, 0, 1, 0);
    due("29: no half keeps both", x.quick(0), -7);
    due("29: most keeps both", x.quick(1), 232);
    x.riddle(3);
    x.ask(1, 0, 1, 2);
    due("29: of a sum no half", x.quick(0), -7);
    due("29: of a sum no most", x.quick(1), -7);
    due("29: the sum", x.quick(2), 150);
    x.riddle(3);
    x.ask(2, 0, 1, 2);
    for (int kind = 0; kind < 3; kind++) due("29: none keeps it", x.quick(kind), -7);
    x.riddle(3);
    due("29: laws that are not asked don't matter", x.quick(0), 8);
  }

  private static void quickOfThree() {
    ActBench x = of(3);
    long sum = 0;
    long most = 0;
    for (int r = 26; r >= 0; r--) {
      int a = r / 9;
      int b = r / 3 % 3;
      int c = r % 3;
      sum = sum * 3 + (a - b + c + 3) % 3;
      most = most * 3 + (a == b || a == c ? a : b == c ? b : 0);
    }
    due("29: half of three", x.quick(0), 13203);
    due("29: most of three", x.quick(1), most);
    due("29: sum of three", x.quick(2), sum);
    tellLaw(x, 2, 0, 1, 2, 11, 12, 22);
    tellLaw(x, 2, 1, 12, 20);
    tellLaw(x, 1, 1, 2);
    tellLaw(x, 2, 1, 2, 10, 12, 20, 21);
    x.ask(0, 0, 0, 0);
    due("29: rising, a half", x.quick(0), codeOf(0, 0, 0, 0, 1, 1, 0, 1, 2));
    due("29: rising, the middle one", x.quick(1), middle());
    due("29: rising, no sum", x.quick(2), -7);
    x.riddle(1);
    x.ask(1, 0, 0, 0);
    due("29: a round has no half", x.quick(0), -7);
    due("29: a round has the sum", x.quick(2), sum);
    due("29: a round has a most", x.quick(1) > most, true);
    x.riddle(1);
    x.ask(2, 0, 0, 0);
    due("29: a half into 1, 2", x.quick(0), codeOf(0, 0, 0, 0, 1, 1, 0, 1, 2));
    x.riddle(1);
    x.ask(3, 0, 0, 0);
    for (int kind = 0; kind < 3; kind++) due("29: colours have none", x.quick(kind), -7);
  }

  private static long middle() {
    long code = 0;
    for (int r = 26; r >= 0; r--) {
      int a = r / 9;
      int b = r / 3 % 3;
      int c = r % 3;
      code = code * 3 + Math.max(Math.min(a, b), Math.min(Math.max(a, b), c));
    }
    return code;
  }

  private static void count() {
    ActBench x = of(3);
    tellAct(x, 1, 0, 1, 2);
    tellAct(x, 1, 0, 1, 2);
    tellLaw(x, 1, 0);
    tellLaw(x, 1, 0);
    tellLaw(x, 1, 0);
    x.riddle(4);
    for (int i = 0; i < 5; i++) x.ask(0, 0, 0, 0);
    for (int slot = 0; slot < 6; slot++) x.row(slot, 0, 0);
    x.tear(0);
    int[] wanted = {3, 2, 3, 4, 5, 6};
    for (int what = 0; what < 6; what++) due("30: count(" + what + ")", x.count(what), wanted[what]);
    due("30: another", x.count(6), -1);
    due("30: below", x.count(-1), -1);
  }
}
