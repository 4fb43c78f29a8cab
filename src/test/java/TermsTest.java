/** The terms 1 to 4, as far as they name limits, and what is said of all calls. */
public final class TermsTest {
  private static final int ASKING = 25;
  private static final Check check = new Check();

  public static void main(String[] args) {
    term1NumbersOfRows();
    term1LimitsStayBehindFresh();
    term1KeepsAnyRowsInAnyOrder();
    term2SizeOfPlaces();
    term2SizeCountsEachOneThatIsPutIn();
    term2SizeIsTheLeast();
    term2GreatSizes();
    term2BySizeThenByCode();
    term2CodeRowNoughtLowest();
    term3HeapOfOnePart();
    term3PairingPlaceByPlace();
    term3SumOfNoPlaces();
    term4AnswersFitAllAsks();
    term4AnswersInAnyOrderOfUnknowns();
    term4NarrowedIsNotSolved();
    term4HalfTakesAnyTwoFirst();
    term4QuickLooksAtAskedLawsAlone();
    allCallsUpToThe512th();
    allMemoryIsItsOwn();
    askingChangesNothing();
    check.end("terms");
  }

  private static void term1NumbersOfRows() {
    for (int d = 2; d <= 3; d++) {
      for (int row = 0; row < d * d * d; row++) {
        int a = row / d / d;
        int b = row / d % d;
        int c = row % d;
        ActBench x = States.empty(d);
        States.tellLaw(x, 3, a * 100 + b * 10 + c);
        check.due("Terms 1: the first of three counts most", x.lawOf(0), 1L << row);
        if (row >= d * d) continue;
        States.tellLaw(x, 2, b * 10 + c);
        check.due("Terms 1: the first of two counts most", x.lawOf(1), 1L << row);
      }
    }
    // What stands at the first place; put on two rows in turn it leaves just the first.
    ActBench y = States.empty(3);
    long[] first = new long[27];
    for (int r = 0; r < 27; r++) first[r] = r / 9;
    States.tellAct(y, 3, first);
    check.due("Terms 1: the first place of three", y.size(2, code(0, 0, 0, 1, 1, 1, 2, 2, 2)), 0);
    check.due("Terms 1: nothing new", y.made(2), 2);
    check.due("Terms 1: it tells the first", y.at(0, 9), 1);
  }

  private static int code(int... tells) {
    int code = 0;
    for (int r = tells.length - 1; r >= 0; r--) code = code * 3 + tells[r];
    return code;
  }

  private static void term1LimitsStayBehindFresh() {
    ActBench x = States.full(2);
    for (int round = 0; round < 2; round++) {
      x.fresh(3 - round);
      x.row(0, 0, 40);
      for (int a = 0; a < 2; a++) check.due("Terms 1: of three places", x.act(3, 0), a);
      check.due("Terms 1: two of three places", x.act(3, 0), -8);
      for (int a = 2; a < 8; a++) check.due("Terms 1: acts", x.act(2, 0), a);
      check.due("Terms 1: eight acts", x.act(2, 0), -8);
      for (int l = 0; l < 12; l++) check.due("Terms 1: laws", x.law(3, 0), l);
      check.due("Terms 1: twelve laws", x.law(3, 0), -8);
      x.riddle(8);
      for (int i = 0; i < 30; i++) check.due("Terms 4: asks", x.ask(0, 0, 1, 2), i);
      check.due("Terms 4: thirty asks", x.ask(0, 0, 1, 2), -8);
    }
  }

  /** The act tells 1 for 0, 1 alone: the first row must be one that has 0 there, the second 1. */
  private static void term1KeepsAnyRowsInAnyOrder() {
    for (int turn = 0; turn < 2; turn++) {
      ActBench x = States.empty(3);
      long[] tells = {0, 0, 0, 0, 0, 0, 0, 0, 0};
      tells[turn == 0 ? 1 : 3] = 2;
      States.tellAct(x, 2, tells);
      States.tellLaw(x, 2, 0, 1, 10);
      check.due("Terms 1: two rows make one that is not there", x.keeps(0, 0), 0);
      check.due("Terms 1: those that come", x.closed(0), 1 | 1 << 1 | 1 << 2 | 1 << 3 | 1 << 6);
      States.tellLaw(x, 2, 0, 1, 2);
      check.due("Terms 1: with 2 it is kept", x.keeps(0, 1), 1);
      States.tellLaw(x, 2, 1);
      check.due("Terms 1: one row alone gives 0, 0", x.keeps(0, 2), 0);
    }
    // Of three places: only the rows in one order of six make what is not there.
    for (int turn = 0; turn < 6; turn++) {
      int[] order = {5, 7, 11, 15, 19, 21};
      ActBench x = States.empty(3);
      long[] tells = new long[27];
      tells[order[turn]] = 2;
      States.tellAct(x, 3, tells);
      States.tellLaw(x, 3, 0, 12, 120, 201);
      check.due("Terms 1: three rows in one order", x.keeps(0, 0), 0);
      States.tellLaw(x, 3, 0, 11, 110);
      check.due("Terms 1: rows without 2 make 0s alone", x.keeps(0, 1), 1);
      // The three rows in each turn have the told order at one place and 0s come at the others.
      long come = 1 | 1 << 5 | 1 << 15 | 1 << 19 | 1 << 18 | 1 << 6 | 1 << 2;
      check.due("Terms 1: what comes of them", x.closed(0), come);
    }
  }

  private static void term2SizeOfPlaces() {
    ActBench x = States.empty(2);
    int[][] places = {{2}, {12, 10}, {240, 204, 170}};
    for (int round = 0; round < 2; round++) {
      for (int n = 1; n <= 3; n++) {
        for (int code : places[n - 1]) check.due("Terms 2: a place has size 0", x.size(n, code), 0);
      }
      // An act that only tells a place makes nothing, and leaves the size 0.
      States.tellAct(x, 1, 0, 1);
      States.tellAct(x, 2, 0, 1, 0, 1);
    }
    check.due("Terms 2: nothing more is made", x.made(3), 3);
  }

  private static void term2SizeCountsEachOneThatIsPutIn() {
    ActBench x = States.empty(3);
    States.tellAct(x, 1, 1, 2, 2);
    check.due("Terms 2: once", x.size(1, code(1, 2, 2)), 1);
    check.due("Terms 2: twice", x.size(1, code(2, 2, 2)), 2);
    check.due("Terms 2: no more", x.made(1), 3);
    // Of k places that all must be the same; else it tells 2, which is past all others.
    for (int k = 2; k <= 3; k++) {
      ActBench y = States.empty(3);
      long[] tells = new long[27];
      for (int r = 0; r < 27; r++) tells[r] = 2;
      tells[0] = 1;
      States.tellAct(y, k, tells);
      check.due("Terms 2: size 1", y.size(1, code(1, 2, 2)), 1);
      check.due("Terms 2: the place and that one, or that one alone", y.size(1, code(2, 2, 2)), 2);
    }
    ActBench z = States.empty(2);
    States.tellAct(z, 2, 1, 1, 1, 0);
    int[] sizes = {5, 1, 0, 2};
    for (int code = 0; code < 4; code++) check.due("Terms 2: of one place, code " + code, z.size(1, code), sizes[code]);
    check.due("Terms 2: and, both halves count", z.size(2, 8), 3);
    check.due("Terms 2: or", z.size(2, 14), 3);
    z.fresh(2);
    States.tellAct(z, 3, 1, 1, 1, 1, 1, 1, 1, 0);
    check.due("Terms 2: not, of three places", z.size(1, 1), 1);
    check.due("Terms 2: and of three, all three count", z.size(3, 128), 4);
  }

  /** The first way that is found need not be the least: told in any order the sizes are the same. */
  private static void term2SizeIsTheLeast() {
    long[][] acts = {{1, 0}, {0, 0, 0, 1}, {0, 1, 1, 0, 1, 0, 0, 1}};
    int[] places = {1, 2, 3};
    int[][] orders = {{0, 1, 2}, {0, 2, 1}, {1, 0, 2}, {1, 2, 0}, {2, 0, 1}, {2, 1, 0}};
    for (int[] order : orders) {
      ActBench x = States.empty(2);
      for (int a : order) States.tellAct(x, places[a], acts[a]);
      check.due("Terms 2: the sum of three", x.size(3, 150), 1);
      check.due("Terms 2: not the sum", x.size(3, 105), 2);
      check.due("Terms 2: and of three", x.size(3, 128), 2);
      check.due("Terms 2: or, as the sum of both and their and", x.size(2, 14), 2);
      check.due("Terms 2: always 0", x.size(1, 0), 2);
      check.due("Terms 2: always 1", x.size(1, 3), 3);
    }
  }

  /** Acts that were searched for, since they need long ways to what they make. */
  private static void term2GreatSizes() {
    ActBench x = States.empty(3);
    States.tellAct(x, 3, 2, 1, 1, 1, 1, 1, 1, 1, 1, 1, 1, 1, 1, 1, 0, 1, 0, 0, 1, 1, 1, 1, 0, 0, 1, 0, 0);
    int[] codes = {21, 5, 13, 4, 12, 22, 14, 3, 23};
    int[] sizes = {0, 1, 2, 3, 5, 10, 16, 29, 88};
    check.due("Terms 2: nine", x.made(1), 9);
    for (int i = 0; i < 9; i++) {
      check.due("Terms 2: code " + i, x.madeOf(1, i, 0), codes[i]);
      check.due("Terms 2: size " + i, x.madeOf(1, i, 1), sizes[i]);
      check.due("Terms 2: size of code " + codes[i], x.size(1, codes[i]), sizes[i]);
    }
  }

  private static void term2BySizeThenByCode() {
    ActBench x = States.empty(2);
    States.tellAct(x, 2, 1, 1, 1, 0);
    for (int n = 1; n <= 2; n++) {
      int made = x.made(n);
      for (int i = 1; i < made; i++) {
        int less = x.madeOf(n, i - 1, 1);
        int more = x.madeOf(n, i, 1);
        boolean isRight = less < more || less == more && x.madeOf(n, i - 1, 0) < x.madeOf(n, i, 0);
        check.due("Terms 2: " + i + " of " + n + " places stands behind the one ahead", isRight, true);
      }
    }
    ActBench y = States.empty(3);
    States.tellAct(y, 1, 2, 2, 2);
    States.tellAct(y, 1, 0, 0, 0);
    States.tellAct(y, 1, 1, 1, 1);
    int[] codes = {21, 0, 13, 26};
    for (int i = 0; i < 4; i++) check.due("Terms 2: of one size by codes", y.madeOf(1, i, 0), codes[i]);
  }

  private static void term2CodeRowNoughtLowest() {
    ActBench x = States.empty(3);
    States.tellAct(x, 1, 1, 0, 0);
    check.due("Terms 2: 1 for row 0", x.madeOf(1, 1, 0), 1);
    x.fresh(3);
    States.tellAct(x, 1, 0, 0, 1);
    check.due("Terms 2: 1 for row 2", x.size(1, 9), 1);
    x.fresh(3);
    States.tellAct(x, 2, 0, 0, 0, 0, 0, 0, 0, 0, 2);
    check.due("Terms 2: 2 for row 8", x.size(2, 2 * 6561), 1);
  }

  private static void term3HeapOfOnePart() {
    ActBench x = States.empty(3);
    States.tellAct(x, 2, 0, 2, 2, 2, 1, 2, 2, 2, 2);
    check.due("Terms 3: each alone", x.heap(1), 1);
    check.due("Terms 3: each alone", x.heap(2), 2);
    check.due("Terms 3: 0 and 1 bring 2", x.heap(3), 7);
    check.due("Terms 3: 0 and 2", x.heap(5), 5);
    check.due("Terms 3: six of seven", x.heaps(), 6);
  }

  private static void term3PairingPlaceByPlace() {
    // It tells 2 for 1, 0 alone, else 0: parts with 1 and another thing would need 0 and 2 in one part.
    ActBench x = States.empty(3);
    States.tellAct(x, 2, 0, 0, 0, 2, 0, 0, 0, 0, 0);
    int[] left = {0, 4, 36, -1};
    check.due("Terms 3: 0 and 2 in one part, or all, or none", x.pairings(), 3);
    for (int i = 0; i < 4; i++) check.due("Terms 3: pairing(" + i + ")", x.pairing(i), left[i]);
    // The part of what it tells counts, not the thing.
    ActBench y = States.empty(3);
    States.tellAct(y, 1, 1, 2, 0);
    States.tellAct(y, 1, 0, 1, 2);
    check.due("Terms 3: a round leaves all in one and each alone", y.pairings(), 2);
    check.due("Terms 3: each alone", y.pairing(1), 36);
  }

  private static void term3SumOfNoPlaces() {
    for (int k = 1; k <= 3; k++) {
      ActBench x = States.empty(2);
      States.tellAct(x, k, 0, 0, 0, 0, 0, 0, 0, 0);
      check.due("Terms 3: 0, at no places", x.signs(0) & 16, 16);
      States.tellAct(x, k, 1, 1, 1, 1, 1, 1, 1, 1);
      check.due("Terms 3: 1, at no places and one more", x.signs(1) & 16, 16);
    }
    ActBench y = States.empty(2);
    int sums = 0;
    for (int code = 0; code < 256; code++) {
      long[] tells = new long[8];
      for (int r = 0; r < 8; r++) tells[r] = code >> r & 1;
      if (code % 32 == 0) y = new ActBench();
      y.fresh(2);
      States.tellAct(y, 3, tells);
      if ((y.signs(0) & 16) != 0) sums++;
    }
    check.due("Terms 3: sums of three places", sums, 16);
  }

  private static void term4AnswersFitAllAsks() {
    ActBench x = States.empty(2);
    States.tellLaw(x, 2, 1, 10);
    x.riddle(8);
    for (int u = 0; u < 7; u++) x.ask(0, u, u + 1, 0);
    check.due("Terms 4: each differs from the next", x.answers(), 2);
    check.due("Terms 4: 01010101", x.answer(0), 0b01010101);
    check.due("Terms 4: 10101010", x.answer(1), 0b10101010);
    x.ask(0, 7, 0, 0);
    check.due("Terms 4: a ring of eight", x.answers(), 2);
    x.ask(0, 0, 2, 0);
    check.due("Terms 4: a ring of three in it", x.answers(), 0);
    for (int u = 0; u < 8; u++) check.due("Terms 4: which each ask alone does not see", x.narrowed(u), 3);
  }

  /** The asked row is 0, 1, 2, so each unknown has the thing that its place in the ask tells. */
  private static void term4AnswersInAnyOrderOfUnknowns() {
    int[][] orders = {{0, 1, 2}, {0, 2, 1}, {1, 0, 2}, {1, 2, 0}, {2, 0, 1}, {2, 1, 0}};
    int[] weights = {9, 3, 1};
    for (int[] order : orders) {
      ActBench x = States.empty(3);
      States.tellLaw(x, 3, 12);
      States.tellLaw(x, 2, 12);
      x.riddle(3);
      x.ask(0, order[0], order[1], order[2]);
      check.due("Terms 4: one answer", x.answers(), 1);
      check.due("Terms 4: the answer", x.answer(0), weights[order[1]] + 2 * weights[order[2]]);
      for (int p = 0; p < 3; p++) check.due("Terms 4: narrowed", x.narrowed(order[p]), 1 << p);
      x.riddle(3);
      x.ask(1, order[0], order[1], 0);
      check.due("Terms 4: three answers", x.answers(), 3);
      check.due("Terms 4: the first", x.answer(0), weights[order[0]] + 2 * weights[order[1]]);
    }
  }

  private static void term4NarrowedIsNotSolved() {
    ActBench x = States.empty(3);
    States.tellLaw(x, 2, 1, 2, 10, 12, 20, 21);
    x.riddle(4);
    for (int u = 0; u < 4; u++) {
      for (int v = 0; v < u; v++) x.ask(0, v, u, 0);
    }
    check.due("Terms 4: four that differ of three things", x.answers(), 0);
    for (int u = 0; u < 4; u++) check.due("Terms 4: all are left", x.narrowed(u), 7);
  }

  /** Of three things that all differ a half would have to tell the third for any two, which is none then. */
  private static void term4HalfTakesAnyTwoFirst() {
    ActBench x = States.empty(3);
    States.tellLaw(x, 3, 12, 21, 102, 120, 201, 210);
    x.riddle(3);
    x.ask(0, 0, 1, 2);
    check.due("Terms 4: no half keeps that all three differ", x.quick(0), -7);
    ActBench y = States.empty(3);
    int rows = 0;
    States.tellLaw(y, 1, 0, 1);
    States.tellLaw(y, 1, 1, 2);
    States.tellLaw(y, 1, 0, 2);
    for (int l = 0; l < 3; l++) {
      y.ask(l, 0, 0, 0);
      rows += y.quick(0) >= 0 ? 1 : 0;
    }
    check.due("Terms 4: into two of three each, with a least one", rows, 3);
    check.due("Terms 4: the lesser one, then", y.quick(0), leastChain());
  }

  /** Of the halves that tell one of the two: those of a row of the things, each one less than the next. */
  private static int leastChain() {
    int[][] orders = {{0, 1, 2}, {0, 2, 1}, {1, 0, 2}, {1, 2, 0}, {2, 0, 1}, {2, 1, 0}};
    int least = Integer.MAX_VALUE;
    for (int[] order : orders) {
      int[] tells = new int[9];
      for (int r = 0; r < 9; r++) tells[r] = order[r / 3] < order[r % 3] ? r / 3 : r % 3;
      least = Math.min(least, code(tells));
    }
    return least;
  }

  private static void term4QuickLooksAtAskedLawsAlone() {
    ActBench x = States.empty(2);
    for (int l = 0; l < 11; l++) States.tellLaw(x, 3, 1, 10, 100);
    States.tellLaw(x, 1, 0);
    x.ask(11, 0, 0, 0);
    check.due("Terms 4: law 11 is kept, others are not asked", x.quick(0), 8);
    x.ask(10, 0, 0, 0);
    check.due("Terms 4: law 10 is asked", x.quick(0), -7);
    x.riddle(1);
    check.due("Terms 4: without asks", x.quick(0), 8);
  }

  private static void allCallsUpToThe512th() {
    ActBench x = new ActBench();
    int calls = 0;
    x.fresh(3);
    x.row(0, 0, 40);
    calls += 2;
    while (calls < 500) {
      check.due("the calls up to the 500th", x.write(0, calls % 40, calls % 3), 0);
      calls++;
    }
    for (int i = 0; i < 4; i++) check.due("call " + (501 + i), x.write(0, i, i == 0 ? 1 : 2), 0);
    check.due("call 505", x.law(3, 0), 0);
    check.due("call 506", x.lawOf(0), 1L << 26);
    check.due("call 507", x.riddle(8), true);
    check.due("call 508", x.ask(0, 7, 6, 7), 0);
    check.due("call 509", x.answers(), 729);
    check.due("call 510", x.act(3, 0), 0);
    check.due("call 511", x.keeps(0, 0) >= 0, true);
    check.due("call 512", x.answer(728), 6560);
  }

  /** Two objects that are used in turn answer as each would alone. */
  private static void allMemoryIsItsOwn() {
    ActBench x = States.some(2);
    ActBench y = States.some(3);
    States.tellAct(y, 1, 1, 2, 0);
    States.tellAct(x, 1, 1, 0);
    check.due("x has two things", x.count(0), 2);
    check.due("y has three", y.count(0), 3);
    check.due("x makes all of one place", x.made(1), 4);
    check.due("y makes more", y.made(1) > 4, true);
    check.due("x still makes four", x.made(1), 4);
    check.due("x's riddle", x.answers(), 2);
    y.riddle(8);
    check.due("y's riddle", y.answers(), 6561);
    check.due("x's riddle again", x.answers(), 2);
    x.fresh(2);
    check.due("y's laws stay", y.count(2), 3);
    check.due("x's are gone", x.count(2), 0);
    ActBench z = new ActBench();
    check.due("a new one has nothing of theirs", z.count(1) + z.count(2) + z.count(4) + z.count(5), 0);
  }

  /** Calls that only ask may come in any order and again, and answer the same. */
  private static void askingChangesNothing() {
    for (String state : Check.STATES.keySet()) {
      long[] alone = new long[ASKING];
      for (int call = 0; call < ASKING; call++) alone[call] = asking(Check.STATES.get(state).make(), call);
      for (int first = 0; first < ASKING; first++) {
        for (int call = 0; call < ASKING; call++) {
          ActBench x = Check.STATES.get(state).make();
          asking(x, first);
          check.due("call " + call + " behind call " + first + " (" + state + ")", asking(x, call), alone[call]);
        }
      }
    }
    check.refusedAnywhere("asking changes nothing", TermsTest::askAll, 0);
  }

  private static long askAll(ActBench x) {
    for (int call = 0; call < ASKING; call++) asking(x, call);
    return 0;
  }

  private static long asking(ActBench x, int call) {
    switch (call) {
      case 0: return x.actsOf(1, 1);
      case 1: return x.actsOf(-1, 2);
      case 2: return x.actsOf(2, 3);
      case 3: return x.actOf(0, 1, 1);
      case 4: return x.actOf(1, 2, 2);
      case 5: return x.quick(0);
      case 6: return x.quick(1);
      case 7: return x.quick(2);
      case 8: return x.made(1);
      case 9: return x.made(2);
      case 10: return x.made(3);
      case 11: return x.madeOf(2, 2, 0);
      case 12: return x.size(1, 0);
      case 13: return x.answers();
      case 14: return x.answer(1);
      case 15: return x.narrowed(0);
      case 16: return x.laws(1);
      case 17: return x.laws(2);
      case 18: return x.closed(0);
      case 19: return x.closed(2);
      case 20: return x.keeps(0, 0);
      case 21: return x.heaps();
      case 22: return x.pairings();
      case 23: return x.at(0, 1);
      default: return x.lawOf(0);
    }
  }
}
