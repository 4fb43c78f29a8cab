/** Objects to start from, each made by the same calls again and again. */
final class States {
  /** How a state is made; the same one each time. */
  interface State {
    ActBench make();
  }

  private States() {
  }

  /** It had the other number of things before, of which nothing may be left. */
  static ActBench empty(int d) {
    ActBench x = new ActBench();
    x.fresh(5 - d);
    x.fresh(d);
    return x;
  }

  /** A row of eight-byte numbers in a slot. */
  static void fill(ActBench x, int slot, long... numbers) {
    x.row(slot, 3, numbers.length);
    for (int i = 0; i < numbers.length; i++) if (numbers[i] != 0) x.write(slot, i, numbers[i]);
  }

  static int tellAct(ActBench x, int k, long... tells) {
    fill(x, 7, tells);
    return x.act(k, 7);
  }

  /** The rows as one number each, digit by digit: 12 is the row 1, 2. */
  static int tellLaw(ActBench x, int k, int... rows) {
    long[] numbers = new long[1 + rows.length * k];
    numbers[0] = rows.length;
    for (int r = 0; r < rows.length; r++) {
      int rest = rows[r];
      for (int p = k; p >= 1; p--) {
        numbers[r * k + p] = rest % 10;
        rest /= 10;
      }
    }
    fill(x, 7, numbers);
    return x.law(k, 7);
  }

  /** Some of everything: slots with and without rows, of all widths, a row without numbers among them. */
  static ActBench some(int d) {
    ActBench x = empty(d);
    tellAct(x, 2, d == 2 ? new long[] {0, 0, 0, 1} : new long[] {0, 0, 0, 0, 1, 1, 0, 1, 2});
    tellAct(x, 1, d == 2 ? new long[] {1, 1} : new long[] {2, 1, 2});
    tellLaw(x, 2, 0, 1, 11);
    tellLaw(x, 1, 1);
    tellLaw(x, 3, 1, 10, 100);
    x.riddle(3);
    x.ask(0, 0, 1, 0);
    x.ask(2, 2, 1, 0);
    x.row(0, 0, 5);
    x.write(0, 0, 1);
    x.write(0, 2, 1);
    x.write(0, 4, -1);
    x.row(1, 1, 0);
    x.row(2, 2, 40);
    x.write(2, 39, 1);
    x.row(3, 3, 27);
    x.write(3, 26, 1);
    x.row(4, 0, 1);
    warm(x);
    return x;
  }

  /** As many slots, acts, laws, unknowns and asks as there can be. */
  static ActBench full(int d) {
    ActBench x = empty(d);
    x.row(0, 0, 40);
    x.act(3, 0);
    States.fill(x, 1, d == 2 ? new long[] {0, 0, 0, 1} : new long[] {0, 0, 0, 0, 1, 1, 0, 1, 2});
    for (int a = 1; a < 6; a++) x.act(1 + a % 2, 1);
    for (int i = 0; i < d; i++) x.write(1, i, 1);
    x.act(1, 1);
    x.act(3, 0);
    tellLaw(x, 2, 0, 1, 11);
    tellLaw(x, 3, 0, 1, 10, 11, 110, 111);
    x.row(1, 1, 40);
    for (int l = 2; l < 12; l++) {
      x.write(1, 0, l);
      x.write(1, l, l % d);
      x.law(1 + l % 3, 1);
    }
    x.riddle(8);
    for (int i = 0; i < 30; i++) x.ask(i / 15, i % 7, 1 + i % 7, i % 8);
    for (int slot = 2; slot < 8; slot++) x.row(slot, slot % 4, 5 * slot);
    x.write(7, 34, 1);
    warm(x);
    return x;
  }

  /** Three things and acts that make more than 256 acts of two places. */
  static ActBench tooMany() {
    ActBench x = some(3);
    tellAct(x, 2, 1, 1, 0, 1, 2, 2, 0, 2, 0);
    tellAct(x, 1, 1, 2, 0);
    warm(x);
    return x;
  }

  /** A riddle that is quick by a half and a most: each unknown is at most the next. */
  static ActBench rising(int d) {
    ActBench x = empty(d);
    tellLaw(x, 2, d == 2 ? new int[] {0, 1, 11} : new int[] {0, 1, 2, 11, 12, 22});
    x.riddle(3);
    x.ask(0, 0, 1, 0);
    x.ask(0, 1, 2, 0);
    return x;
  }

  /** A riddle that is quick by a most and the sum: each unknown is one more than the next, round. */
  static ActBench round(int d) {
    ActBench x = empty(d);
    tellAct(x, 3, d == 2 ? new long[] {0, 1, 1, 0, 1, 0, 0, 1} : new long[27]);
    tellLaw(x, 2, d == 2 ? new int[] {1, 10} : new int[] {1, 12, 20});
    x.riddle(3);
    x.ask(0, 1, 0, 0);
    x.ask(0, 2, 1, 0);
    return x;
  }

  /** What a bench may have worked out ahead must not be what it answers behind a change. */
  private static void warm(ActBench x) {
    for (int n = 1; n <= 3; n++) x.made(n);
    x.actsOf(-1, 1);
    x.answers();
    x.narrowed(0);
    x.quick(0);
  }
}
