/** Boundary cases of promises 1 to 7: new objects, slots, and what is told by them. */
public final class SlotEdgesTest {
  private static final Check check = new Check();

  public static void main(String[] args) {
    promise1NewObjectHasNothing();
    promise1NewObjectIsLikeFreshOfTwo();
    promise2FreshTakesTwoAndThree();
    promise2FreshRefusesOthers();
    promise2FreshLeavesNothingButSlots();
    promise3RowSlots();
    promise3RowWidths();
    promise3RowLengths();
    promise3RowFirstRefusal();
    promise3RowInPlaceOfAnother();
    promise3RowWithoutNumbers();
    promise4TearTakesOnce();
    promise4TearRefusals();
    promise5WriteFirstAndLastNumber();
    promise5WriteRefusals();
    promise5WriteCutsToWidth();
    promise6ActReadsAsManyAsItsRows();
    promise6ActThings();
    promise6ActRefusals();
    promise6ActEightAndTwoOfThree();
    promise6ActFirstRefusal();
    promise6ActReadsOneByOne();
    promise7LawHowManyRows();
    promise7LawLengths();
    promise7LawThings();
    promise7LawRefusals();
    promise7LawTwelve();
    promise7LawFirstRefusal();
    promise7LawReadsOneByOne();
    check.end("edges of slots");
  }

  private static void promise1NewObjectHasNothing() {
    ActBench x = new ActBench();
    int[] counts = {2, 0, 0, 1, 0, 0};
    for (int what = 0; what < 6; what++) check.due("1: count(" + what + ")", x.count(what), counts[what]);
    check.due("1: no act", x.at(0, 0), -1);
    check.due("1: no law", x.lawOf(0), -1);
    check.due("1: the unknown", x.narrowed(0), 3);
    check.due("1: no second unknown", x.narrowed(1), -1);
    check.due("1: both things answer", x.answers(), 2);
    check.due("1: all sets are heaps", x.heaps(), 3);
    check.due("1: all pairings", x.pairings(), 2);
    check.due("1: it makes not all", x.whole(), 0);
    for (int n = 1; n <= 3; n++) check.due("1: the places are made", x.made(n), n);
    for (int slot = 0; slot < 8; slot++) check.due("1: slot " + slot + " is empty", x.write(slot, 0, 0), -5);
  }

  private static void promise1NewObjectIsLikeFreshOfTwo() {
    check.refusedIn("new", "1: nothing is behind fresh(2) that is not in a new object", x -> x.fresh(2) ? 1 : 0, 1);
  }

  private static void promise2FreshTakesTwoAndThree() {
    for (int before = 2; before <= 3; before++) {
      for (int d = 2; d <= 3; d++) {
        ActBench x = States.full(before);
        check.due("2: fresh(" + d + ")", x.fresh(d), true);
        check.due("2: D", x.count(0), d);
        check.due("2: it has so many things", x.narrowed(0), (1 << d) - 1);
        check.due("2: so many answers", x.answers(), d);
        check.due("2: so many acts", x.actsOf(-1, 1), d == 2 ? 4 : 27);
        check.due("2: so many laws", x.laws(1), 1 << d);
        check.due("2: so many heaps", x.heaps(), (1 << d) - 1);
      }
    }
  }

  private static void promise2FreshRefusesOthers() {
    for (int d : new int[] {1, 4, 0, -2, -3, Integer.MIN_VALUE, Integer.MAX_VALUE}) {
      check.refusedAnywhere("2: fresh(" + d + ")", x -> x.fresh(d) ? 1 : 0, 0);
    }
  }

  private static void promise2FreshLeavesNothingButSlots() {
    for (int d = 2; d <= 3; d++) {
      ActBench x = States.full(d);
      x.fresh(d);
      int[] counts = {d, 0, 0, 1, 0, 8};
      for (int what = 0; what < 6; what++) check.due("2: count(" + what + ")", x.count(what), counts[what]);
      check.due("2: no act", x.at(0, 0), -1);
      check.due("2: no law", x.lawOf(0), -1);
      check.due("2: no ask", x.ask(0, 0, 0, 0), -2);
      check.due("2: places alone are made", x.made(2), 2);
      check.due("2: no act leaves a heap out", x.heaps(), (1 << d) - 1);
      check.due("2: a riddle without asks is quick", x.quick(2) > 0, true);
      check.due("2: slot 7 stays", x.write(7, 34, 0), 0);
      check.due("2: slot 7 stays as long as it was", x.write(7, 35, 0), -6);
      check.due("2: eight acts can come again", x.act(3, 0), 0);
      check.due("2: two of three can come again", x.act(3, 0), 1);
      check.due("2: the slot has its numbers still", x.law(1, 1), 0);
      check.due("2: the slot has its numbers still", x.lawOf(0), (1 << d) - 1);
    }
  }

  private static void promise3RowSlots() {
    ActBench x = new ActBench();
    for (int slot = 0; slot < 8; slot++) {
      check.due("3: slot " + slot, x.row(slot, 0, 1), 0);
      check.due("3: so many slots have a row", x.count(5), slot + 1);
    }
    for (int slot : new int[] {-1, 8, Integer.MIN_VALUE, Integer.MAX_VALUE}) {
      check.refusedAnywhere("3: slot " + slot, y -> y.row(slot, 0, 1), -2);
    }
  }

  private static void promise3RowWidths() {
    ActBench x = new ActBench();
    for (int width = 0; width < 4; width++) check.due("3: width " + width, x.row(0, width, 1), 0);
    for (int width : new int[] {-1, 4, 8, Integer.MIN_VALUE, Integer.MAX_VALUE}) {
      check.refusedAnywhere("3: width " + width, y -> y.row(0, width, 1), -2);
    }
  }

  private static void promise3RowLengths() {
    ActBench x = new ActBench();
    for (int n : new int[] {0, 1, 39, 40}) {
      check.due("3: " + n + " numbers", x.row(0, 0, n), 0);
      check.due("3: the last number", x.write(0, n - 1, 0), n == 0 ? -6 : 0);
      check.due("3: none behind the last", x.write(0, n, 0), -6);
    }
    check.refusedAnywhere("3: 41 numbers", y -> y.row(0, 0, 41), -2);
    check.refusedAnywhere("3: far above 40", y -> y.row(0, 0, Integer.MAX_VALUE), -2);
    check.refusedAnywhere("3: one below 0", y -> y.row(0, 0, -1), -3);
    check.refusedAnywhere("3: far below 0", y -> y.row(0, 0, Integer.MIN_VALUE), -3);
  }

  private static void promise3RowFirstRefusal() {
    check.refusedAnywhere("3: no slot and below 0", y -> y.row(8, 0, -1), -2);
    check.refusedAnywhere("3: no slot below and below 0", y -> y.row(-1, 0, -1), -2);
    check.refusedAnywhere("3: no width and below 0", y -> y.row(0, 4, -1), -2);
    check.refusedAnywhere("3: no width below and below 0", y -> y.row(0, -1, -1), -2);
    check.refusedAnywhere("3: neither slot nor width nor length", y -> y.row(8, 4, -1), -2);
  }

  private static void promise3RowInPlaceOfAnother() {
    ActBench x = new ActBench();
    States.fill(x, 1, 1, 1, 1, 1);
    States.fill(x, 0, 1, 1);
    States.fill(x, 2, 1, 1);
    check.due("3: another row", x.row(1, 0, 3), 0);
    check.due("3: still so many slots", x.count(5), 3);
    check.due("3: it is as long as told", x.write(1, 3, 0), -6);
    check.due("3: its numbers", x.act(1, 1), 0);
    for (int row = 0; row < 2; row++) check.due("3: all 0", x.at(0, row), 0);
    check.due("3: it cuts to its own width", x.write(1, 0, 257), 0);
    check.due("3: it cuts to its own width", x.act(1, 1), 1);
    check.due("3: it cuts to its own width", x.at(1, 0), 1);
    check.due("3: a longer one again", x.row(1, 0, 4), 0);
    check.due("3: all 0 up to the last", x.act(2, 1), 2);
    for (int row = 0; row < 4; row++) check.due("3: all 0 up to the last", x.at(2, row), 0);
    check.due("3: the slot ahead stays", x.act(1, 0), 3);
    check.due("3: the slot ahead stays", x.at(3, 1), 1);
    check.due("3: the slot behind stays", x.act(1, 2), 4);
    check.due("3: the slot behind stays", x.at(4, 0), 1);
  }

  private static void promise3RowWithoutNumbers() {
    ActBench x = new ActBench();
    check.due("3: a row without numbers", x.row(3, 2, 0), 0);
    check.due("3: it is a row", x.count(5), 1);
    check.due("3: it has no number 0", x.write(3, 0, 0), -6);
    check.due("3: no act reads it", x.act(1, 3), -6);
    check.due("3: no law reads it", x.law(1, 3), -6);
    check.due("3: it can be torn", x.tear(3), true);
  }

  private static void promise4TearTakesOnce() {
    ActBench x = States.full(2);
    for (int slot = 0; slot < 8; slot++) {
      check.due("4: tear(" + slot + ")", x.tear(slot), true);
      check.due("4: one slot less", x.count(5), 7 - slot);
      check.due("4: it has nothing now", x.write(slot, 0, 0), -5);
      check.due("4: again", x.tear(slot), false);
    }
    check.due("4: acts stay", x.count(1), 8);
    check.due("4: laws stay", x.count(2), 12);
    check.due("4: asks stay", x.count(4), 30);
    ActBench y = new ActBench();
    States.fill(y, 0, 1, 1);
    y.tear(0);
    y.row(0, 3, 2);
    check.due("4: what is torn does not come again", y.act(1, 0), 0);
    check.due("4: what is torn does not come again", y.at(0, 0) + y.at(0, 1), 0);
  }

  private static void promise4TearRefusals() {
    for (int slot : new int[] {-1, 8, Integer.MIN_VALUE, Integer.MAX_VALUE}) {
      check.refusedAnywhere("4: tear(" + slot + ")", x -> x.tear(slot) ? 1 : 0, 0);
    }
    for (int slot = 0; slot < 8; slot++) {
      int which = slot;
      check.refusedIn("empty 2", "4: tear(" + slot + ")", x -> x.tear(which) ? 1 : 0, 0);
    }
    check.refusedIn("some 3", "4: nothing there", x -> x.tear(5) ? 1 : 0, 0);
  }

  private static void promise5WriteFirstAndLastNumber() {
    for (int width = 0; width < 4; width++) {
      ActBench x = States.empty(3);
      for (int slot = 0; slot < 8; slot++) {
        x.row(slot, width, 40);
        check.due("5: how many rows", x.write(slot, 0, 13), 0);
        check.due("5: the last number", x.write(slot, 39, 2), 0);
      }
      for (int slot = 0; slot < 8; slot++) {
        check.due("5: both are read", x.law(3, slot), slot);
        check.due("5: both are read", x.lawOf(slot), 1 | 1 << 2);
      }
    }
  }

  private static void promise5WriteRefusals() {
    for (int slot : new int[] {-1, 8, Integer.MIN_VALUE, Integer.MAX_VALUE}) {
      check.refusedAnywhere("5: no slot " + slot, x -> x.write(slot, 0, 1), -2);
      check.refusedAnywhere("5: no slot " + slot + " and no number", x -> x.write(slot, -1, 1), -2);
    }
    for (int i : new int[] {0, -1, 40, Integer.MIN_VALUE, Integer.MAX_VALUE}) {
      check.refusedIn("some 2", "5: nothing there, number " + i, x -> x.write(5, i, 1), -5);
      check.refusedIn("new", "5: nothing there, number " + i, x -> x.write(0, i, 1), -5);
    }
    for (int i : new int[] {-1, 5, 40, Integer.MIN_VALUE, Integer.MAX_VALUE}) {
      check.refusedIn("some 2", "5: no number " + i + " of five", x -> x.write(0, i, 1), -6);
      check.refusedIn("some 3", "5: no number " + i + " of none", x -> x.write(1, i, 1), -6);
    }
    check.refusedIn("some 2", "5: no number 0 of none", x -> x.write(1, 0, 1), -6);
    check.refusedIn("full 2", "5: no number 40 of 40", x -> x.write(0, 40, 1), -6);
    check.refusedIn("full 3", "5: no number -1 of 40", x -> x.write(1, -1, 1), -6);
  }

  /** The last number that is not cut and the first that is, on both sides, for each width. */
  private static void promise5WriteCutsToWidth() {
    for (int width = 0; width < 4; width++) {
      int bits = 8 << width;
      for (int thing = 0; thing < 3; thing++) {
        cut(width, thing, thing);
        if (bits == 64) continue;
        cut(width, (1L << bits) + thing, thing);
        cut(width, -(1L << bits) + thing, thing);
        cut(width, Long.MIN_VALUE + thing, thing);
        cut(width, (5L << bits) + thing, thing);
      }
      cut(width, 3, -4);
      cut(width, -1, -4);
      cut(width, Long.MAX_VALUE, -4);
      cut(width, 1L << (bits - 1), -4);
      cut(width, (1L << (bits - 1)) + 1, -4);
      cut(width, (1L << (bits - 1)) - 1, -4);
      cut(width, -(1L << (bits - 1)), -4);
      for (int less = 0; less < width; less++) cut(width, 1L << (8 << less), -4);
      if (bits < 64) {
        cut(width, (1L << bits) - 1, -4);
        cut(width, (1L << bits) + 3, -4);
      }
    }
    check.due("5: how many rows are cut too", howMany(0, 256 + 27), 0);
    check.due("5: how many rows are cut too", howMany(0, 256 + 28), -4);
    check.due("5: how many rows are cut too", howMany(0, -256 + 27), 0);
    check.due("5: how many rows are not cut", howMany(1, 256 + 27), -4);
    check.due("5: how many rows are cut too", howMany(1, 65536 + 27), 0);
    check.due("5: how many rows are not cut", howMany(3, (1L << 32) + 27), -4);
  }

  private static void cut(int width, long v, int thing) {
    ActBench x = States.empty(3);
    x.row(0, width, 3);
    check.due("5: write " + v + " of width " + width, x.write(0, 0, v), 0);
    check.due("5: act with " + v + " of width " + width, x.act(1, 0), thing < 0 ? thing : 0);
    check.due("5: " + v + " of width " + width, x.at(0, 0), thing < 0 ? -1 : thing);
  }

  private static int howMany(int width, long rows) {
    ActBench x = States.empty(3);
    x.row(0, width, 28);
    x.write(0, 0, rows);
    return x.law(1, 0);
  }

  private static void promise6ActReadsAsManyAsItsRows() {
    int[][] rows = {{2, 4, 8}, {3, 9, 27}};
    for (int d = 2; d <= 3; d++) {
      for (int k = 1; k <= 3; k++) {
        int need = rows[d - 2][k - 1];
        ActBench x = States.empty(d);
        x.row(0, 0, need - 1);
        check.due("6: one number too few", x.act(k, 0), -6);
        x.row(0, 0, need);
        x.write(0, need - 1, d - 1);
        check.due("6: as many as needed", x.act(k, 0), 0);
        check.due("6: the last one is told", x.at(0, need - 1), d - 1);
        check.due("6: there is none behind", x.at(0, need), -1);
        x.row(0, 3, need + 1);
        x.write(0, need, d);
        check.due("6: what is behind does not matter", x.act(k, 0), 1);
        x.write(0, need - 1, d);
        x.fresh(d);
        check.due("6: the last one that matters", x.act(k, 0), -4);
        check.due("6: a refused one is not there", x.count(1), 0);
      }
    }
  }

  private static void promise6ActThings() {
    for (int d = 2; d <= 3; d++) {
      for (int at = 0; at < d; at++) {
        ActBench x = States.empty(d);
        x.row(0, 3, d);
        x.write(0, at, d - 1);
        check.due("6: the last thing", x.act(1, 0), 0);
        x.write(0, at, d);
        check.due("6: one behind the last thing", x.act(1, 0), -4);
        x.write(0, at, -1);
        check.due("6: one ahead of the first thing", x.act(1, 0), -4);
        x.write(0, at, Long.MIN_VALUE);
        check.due("6: far ahead", x.act(1, 0), -4);
        x.write(0, at, 1L << 32);
        check.due("6: not cut to an int", x.act(1, 0), -4);
        x.write(0, at, 0);
        check.due("6: the first thing", x.act(1, 0), 1);
        check.due("6: the first thing", x.at(1, at), 0);
      }
    }
  }

  private static void promise6ActRefusals() {
    for (int slot : new int[] {-1, 8, Integer.MIN_VALUE, Integer.MAX_VALUE}) {
      check.refusedAnywhere("6: no slot " + slot, x -> x.act(1, slot), -2);
    }
    for (int k : new int[] {0, 4, -1, Integer.MIN_VALUE, Integer.MAX_VALUE}) {
      check.refusedAnywhere("6: " + k + " places", x -> x.act(k, 0), -2);
    }
    for (int k = 1; k <= 3; k++) {
      int places = k;
      check.refusedIn("some 2", "6: nothing there", x -> x.act(places, 5), -5);
      check.refusedIn("new", "6: nothing there", x -> x.act(places, 0), -5);
      check.refusedIn("some 2", "6: a row without numbers", x -> x.act(places, 1), -6);
      check.refusedIn("some 3", "6: a row of one number", x -> x.act(places, 4), -6);
    }
    check.refusedIn("some 3", "6: no thing", x -> x.act(2, 0), -4);
    check.refusedIn("some 2", "6: no thing ahead of where the row ends", x -> x.act(3, 0), -4);
  }

  private static void promise6ActEightAndTwoOfThree() {
    for (int d = 2; d <= 3; d++) {
      for (int k = 1; k <= 2; k++) {
        ActBench x = States.empty(d);
        x.row(0, 0, 27);
        for (int a = 0; a < 8; a++) check.due("6: act " + a, x.act(k, 0), a);
        check.due("6: a ninth", x.act(k, 0), -8);
        check.due("6: a ninth of three", x.act(3, 0), -8);
        check.due("6: eight", x.count(1), 8);
        check.due("6: no act 8", x.at(8, 0), -1);
      }
      ActBench y = States.empty(d);
      y.row(0, 0, 27);
      check.due("6: of three", y.act(3, 0), 0);
      check.due("6: of two between", y.act(2, 0), 1);
      check.due("6: of three again", y.act(3, 0), 2);
      check.due("6: a third of three", y.act(3, 0), -8);
      check.due("6: it is not there", y.count(1), 3);
      check.due("6: of two may come still", y.act(2, 0), 3);
      check.due("6: of one may come still", y.act(1, 0), 4);
      check.due("6: a third of three", y.act(3, 0), -8);
      for (int a = 5; a < 8; a++) check.due("6: act " + a, y.act(1, 0), a);
      check.due("6: a ninth", y.act(1, 0), -8);
    }
    for (int k = 1; k <= 3; k++) {
      int places = k;
      check.refusedIn("full 2", "6: a ninth of " + k, x -> x.act(places, 0), -8);
      check.refusedIn("full 3", "6: a ninth of " + k, x -> x.act(places, 0), -8);
    }
  }

  private static void promise6ActFirstRefusal() {
    for (String state : new String[] {"full 2", "full 3"}) {
      check.refusedIn(state, "6: no slot and eight", x -> x.act(1, 8), -2);
      check.refusedIn(state, "6: no places and eight", x -> x.act(0, 0), -2);
      check.refusedIn(state, "6: no places, nothing there and eight", x -> x.tear(5) ? x.act(4, 5) + tornBack(x) : 0, -2);
      check.refusedIn(state, "6: eight and nothing there", x -> x.tear(5) ? x.act(1, 5) + tornBack(x) : 0, -8);
      check.refusedIn(state, "6: eight and a row that ends", x -> x.act(3, 2), -8);
    }
    check.refusedIn("some 2", "6: no places and nothing there", x -> x.act(4, 5), -2);
    check.refusedIn("some 2", "6: no places and a row that ends", x -> x.act(0, 1), -2);
    ActBench y = States.empty(2);
    y.row(0, 0, 8);
    States.fill(y, 1, 9, 9, 9, 9, 9, 9, 9, 9);
    States.fill(y, 2, 0);
    y.act(3, 0);
    y.act(3, 0);
    check.due("6: two of three and nothing there", y.act(3, 3), -8);
    check.due("6: two of three and no thing", y.act(3, 1), -8);
    check.due("6: two of three and a row that ends", y.act(3, 2), -8);
    check.due("6: two of three and no slot", y.act(3, 8), -2);
    check.due("6: of one, nothing there", y.act(1, 3), -5);
    check.due("6: of one, no thing", y.act(1, 1), -4);
    check.due("6: of one, a row that ends", y.act(1, 2), -6);
    for (int a = 2; a < 8; a++) y.act(1, 0);
    check.due("6: eight and no thing", y.act(1, 1), -8);
    check.due("6: eight and a row that ends", y.act(1, 2), -8);
    check.due("6: none of these is there", y.count(1), 8);
  }

  /** Slot 5 of a full state as it was, so that only the call between can have changed something. */
  private static int tornBack(ActBench x) {
    return x.row(5, 1, 25);
  }

  private static void promise6ActReadsOneByOne() {
    ActBench x = States.empty(2);
    for (int length = 0; length < 4; length++) {
      for (int bad = 0; bad <= length; bad++) {
        x.row(0, 0, length);
        x.write(0, bad, 2);
        check.due("6: number " + bad + " of " + length + " is no thing", x.act(2, 0), bad < length ? -4 : -6);
      }
    }
    check.due("6: none is there", x.count(1), 0);
  }

  private static void promise7LawHowManyRows() {
    for (int d = 2; d <= 3; d++) {
      ActBench x = States.empty(d);
      x.row(0, 3, 28);
      check.due("7: no rows", x.law(1, 0), 0);
      check.due("7: no rows", x.lawOf(0), 0);
      x.write(0, 0, 27);
      x.write(0, 27, 1);
      check.due("7: 27 rows", x.law(1, 0), 1);
      check.due("7: 27 rows, the last is read", x.lawOf(1), 3);
      x.write(0, 0, 26);
      check.due("7: 26 rows", x.law(1, 0), 2);
      check.due("7: 26 rows, what is behind does not matter", x.lawOf(2), 1);
      for (long rows : new long[] {28, -1, 1L << 32, 27 + (1L << 32), Long.MIN_VALUE, Long.MAX_VALUE}) {
        x.write(0, 0, rows);
        for (int k = 1; k <= 3; k++) check.due("7: " + rows + " rows of " + k, x.law(k, 0), -4);
      }
      check.due("7: refused ones are not there", x.count(2), 3);
    }
  }

  private static void promise7LawLengths() {
    int[] mostOf40 = {27, 19, 13};
    for (int d = 2; d <= 3; d++) {
      for (int k = 1; k <= 3; k++) {
        int rows = mostOf40[k - 1];
        ActBench x = States.empty(d);
        x.row(0, 0, 1 + rows * k);
        x.write(0, 0, rows);
        x.write(0, rows * k, 1);
        check.due("7: it ends with the last row", x.law(k, 0), 0);
        check.due("7: the last number is read", x.lawOf(0), 3);
        x.row(0, 0, rows * k);
        x.write(0, 0, rows);
        check.due("7: it ends one number ahead", x.law(k, 0), -6);
        x.row(0, 0, 1);
        check.due("7: no rows need no numbers", x.law(k, 0), 1);
        check.due("7: no rows", x.lawOf(1), 0);
        x.row(0, 0, 0);
        check.due("7: not even how many", x.law(k, 0), -6);
        x.row(0, 0, 40);
        x.write(0, 0, rows + 1);
        check.due("7: one row more than 40 numbers hold", x.law(k, 0), k == 1 ? -4 : -6);
      }
    }
  }

  private static void promise7LawThings() {
    for (int d = 2; d <= 3; d++) {
      for (int k = 1; k <= 3; k++) {
        for (int place = 1; place <= 2 * k; place++) {
          ActBench x = States.empty(d);
          x.row(0, 3, 2 * k + 2);
          x.write(0, 0, 2);
          x.write(0, place, d - 1);
          check.due("7: the last thing", x.law(k, 0), 0);
          int weight = (int) Math.pow(d, (2 * k - place) % k);
          check.due("7: the first counts most, the other row is 0", x.lawOf(0), 1 | 1L << (d - 1) * weight);
          for (long bad : new long[] {d, -1, 1L << 32, Long.MIN_VALUE}) {
            x.write(0, place, bad);
            check.due("7: " + bad + " is no thing", x.law(k, 0), -4);
          }
          x.write(0, place, 0);
          x.write(0, 2 * k + 1, d);
          check.due("7: what is behind does not matter", x.law(k, 0), 1);
          check.due("7: one row may come again", x.lawOf(1), 1);
        }
      }
    }
  }

  private static void promise7LawRefusals() {
    for (int slot : new int[] {-1, 8, Integer.MIN_VALUE, Integer.MAX_VALUE}) {
      check.refusedAnywhere("7: no slot " + slot, x -> x.law(1, slot), -2);
    }
    for (int k : new int[] {0, 4, -1, Integer.MIN_VALUE, Integer.MAX_VALUE}) {
      check.refusedAnywhere("7: " + k + " places", x -> x.law(k, 0), -2);
    }
    for (int k = 1; k <= 3; k++) {
      int places = k;
      check.refusedIn("some 2", "7: nothing there", x -> x.law(places, 5), -5);
      check.refusedIn("new", "7: nothing there", x -> x.law(places, 0), -5);
      check.refusedIn("some 3", "7: a row without numbers", x -> x.law(places, 1), -6);
      check.refusedIn("some 2", "7: a row that ends", x -> x.write(4, 0, 1) + x.law(places, 4) - x.write(4, 0, 0), -6);
      check.refusedIn("some 3", "7: no thing", x -> x.write(0, 1, 3) + x.law(places, 0) - x.write(0, 1, 0), -4);
    }
  }

  private static void promise7LawTwelve() {
    for (int k = 1; k <= 3; k++) {
      ActBench x = States.empty(3);
      x.row(0, 0, 1);
      for (int l = 0; l < 12; l++) check.due("7: law " + l, x.law(k, 0), l);
      check.due("7: a thirteenth", x.law(k, 0), -8);
      check.due("7: twelve", x.count(2), 12);
      check.due("7: law 11", x.lawOf(11), 0);
      check.due("7: no law 12", x.lawOf(12), -1);
      int places = k;
      check.refusedIn("full 2", "7: a thirteenth", y -> y.law(places, 0), -8);
      check.refusedIn("full 3", "7: a thirteenth", y -> y.law(places, 0), -8);
    }
  }

  private static void promise7LawFirstRefusal() {
    for (String state : new String[] {"full 2", "full 3"}) {
      check.refusedIn(state, "7: no slot and twelve", x -> x.law(1, -1), -2);
      check.refusedIn(state, "7: no places and twelve", x -> x.law(4, 0), -2);
      check.refusedIn(state, "7: no places, nothing there and twelve", x -> x.tear(5) ? x.law(0, 5) + tornBack(x) : 0, -2);
      check.refusedIn(state, "7: twelve and nothing there", x -> x.tear(5) ? x.law(1, 5) + tornBack(x) : 0, -8);
    }
    check.refusedIn("some 2", "7: no places and nothing there", x -> x.law(4, 5), -2);
    check.refusedIn("some 2", "7: no places and a row that ends", x -> x.law(0, 1), -2);
    ActBench y = States.empty(2);
    y.row(0, 0, 1);
    for (int l = 0; l < 12; l++) y.law(1, 0);
    y.row(0, 0, 0);
    check.due("7: twelve and not even how many", y.law(1, 0), -8);
    States.fill(y, 0, 28);
    check.due("7: twelve and 28 rows", y.law(1, 0), -8);
    States.fill(y, 0, 1);
    check.due("7: twelve and a row that ends", y.law(1, 0), -8);
    States.fill(y, 0, 1, 2);
    check.due("7: twelve and no thing", y.law(1, 0), -8);
  }

  private static void promise7LawReadsOneByOne() {
    ActBench x = States.empty(2);
    for (int length = 1; length <= 7; length++) {
      for (int bad = 0; bad <= length; bad++) {
        x.row(0, 0, length);
        x.write(0, 0, 4);
        x.write(0, bad, bad == 0 ? 28 : 2);
        check.due("7: number " + bad + " of " + length + " is a bad one", x.law(2, 0), bad < length ? -4 : -6);
      }
    }
    check.due("7: none is there", x.count(2), 0);
  }
}
