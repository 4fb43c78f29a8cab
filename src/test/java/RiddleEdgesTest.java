/** Boundary cases of promises 18 to 30: heaps, pairings, signs, riddles and counts. */
public final class RiddleEdgesTest {
  private static final int[] FAR = {Integer.MIN_VALUE, -1, Integer.MAX_VALUE};
  private static final Check check = new Check();

  public static void main(String[] args) {
    promise18HeapsMostAndFewest();
    promise19HeapMasks();
    promise19HeapRefusals();
    promise20PairingsMostAndFewest();
    promise21PairingFirstAndLast();
    promise21PairingRefusals();
    promise22SignsNoneAndAll();
    promise22SignsOneByOne();
    promise22SignsRefusals();
    promise23WholeWithoutActs();
    promise23WholeLacksOneBit();
    promise23WholeRefusals();
    promise24RiddleFewestAndMost();
    promise24RiddleRefusals();
    promise25AskUnknowns();
    promise25AskPlacesBeyond();
    promise25AskThirty();
    promise25AskRefusals();
    promise25AskFirstRefusal();
    promise26NarrowedMostAndNone();
    promise26NarrowedOneThatStandsTwice();
    promise26NarrowedFarAlong();
    promise26NarrowedOneByOne();
    promise26NarrowedThreePlaces();
    promise26NarrowedRefusals();
    promise27AnswersMostAndNone();
    promise28AnswerFirstAndLast();
    promise28AnswerRefusals();
    promise29QuickWithoutAsks();
    promise29QuickLeast();
    promise29QuickNot();
    promise29QuickRefusals();
    promise30CountEmptyAndFull();
    promise30CountRefusals();
    check.end("edges of sets and riddles");
  }

  private static void promise18HeapsMostAndFewest() {
    for (int d = 2; d <= 3; d++) {
      ActBench x = States.empty(d);
      check.due("18: all sets but the empty one", x.heaps(), (1 << d) - 1);
      for (int a = 0; a < 7; a++) States.tellAct(x, 1, 0, 1, 2);
      check.due("18: acts that leave all", x.heaps(), (1 << d) - 1);
      States.tellAct(x, 1, d == 2 ? new long[] {1, 0} : new long[] {1, 2, 0});
      check.due("18: the eighth leaves all things alone", x.heaps(), 1);
    }
    ActBench y = States.empty(3);
    long[] tells = new long[27];
    for (int r = 0; r < 27; r++) tells[r] = r / 9;
    tells[5] = 1;
    States.tellAct(y, 3, tells);
    check.due("18: 1 for 0, 1, 2 leaves all", y.heaps(), 7);
    tells[5] = 0;
    tells[1] = 2;
    y.fresh(3);
    States.tellAct(y, 3, tells);
    check.due("18: 2 for 0, 0, 1 does not leave 0, 1", y.heaps(), 6);
    tells[26] = 1;
    y.fresh(3);
    States.tellAct(y, 3, tells);
    check.due("18: 1 for 2s neither 2 nor 0, 2", y.heaps(), 4);
  }

  private static void promise19HeapMasks() {
    for (int d = 2; d <= 3; d++) {
      int all = (1 << d) - 1;
      ActBench x = States.empty(d);
      for (int mask = 1; mask <= all; mask++) check.due("19: without acts", x.heap(mask), mask);
      check.due("19: one beyond all", x.heap(all + 1), -1);
      check.due("19: none", x.heap(0), -1);
      States.tellAct(x, 1, d == 2 ? new long[] {1, 0} : new long[] {1, 2, 0});
      for (int mask = 1; mask <= all; mask++) check.due("19: all come round", x.heap(mask), all);
    }
    ActBench y = States.empty(3);
    States.tellAct(y, 1, 2, 1, 2);
    int[] least = {5, 2, 7, 4, 5, 6, 7};
    for (int mask = 1; mask <= 7; mask++) check.due("19: 0 brings 2, heap(" + mask + ")", y.heap(mask), least[mask - 1]);
    States.tellAct(y, 1, 0, 1, 1);
    int[] both = {7, 2, 7, 6, 7, 6, 7};
    for (int mask = 1; mask <= 7; mask++) check.due("19: and 2 brings 1, heap(" + mask + ")", y.heap(mask), both[mask - 1]);
  }

  private static void promise19HeapRefusals() {
    check.refusedAnywhere("19: no things", x -> x.heap(0), -1);
    check.refusedAnywhere("19: beyond three", x -> x.heap(8), -1);
    check.refusedAnywhere("19: one of them and beyond", x -> x.heap(9), -1);
    for (int far : FAR) check.refusedAnywhere("19: heap(" + far + ")", x -> x.heap(far), -1);
    for (String state : new String[] {"new", "some 2", "full 2"}) {
      for (int mask = 4; mask < 8; mask++) {
        int which = mask;
        check.refusedIn(state, "19: beyond two, " + mask, x -> x.heap(which), -1);
      }
    }
    check.due("19: all of three", States.full(3).heap(7), 7);
    check.due("19: all of two", States.full(2).heap(3), 3);
  }

  private static void promise20PairingsMostAndFewest() {
    ActBench x = States.empty(2);
    check.due("20: both of two things", x.pairings(), 2);
    States.tellAct(x, 2, 1, 1, 1, 0);
    check.due("20: both of two things whatever the acts are", x.pairings(), 2);
    ActBench y = States.empty(3);
    check.due("20: all five of three things", y.pairings(), 5);
    for (int a = 0; a < 7; a++) States.tellAct(y, 1, 0, 1, 2);
    check.due("20: acts that leave all", y.pairings(), 5);
    States.tellAct(y, 1, 1, 2, 0);
    check.due("20: the eighth leaves all in one and each alone", y.pairings(), 2);
  }

  private static void promise21PairingFirstAndLast() {
    int[] all = {0, 4, 20, 32, 36};
    ActBench x = States.empty(3);
    for (int i = 0; i < 5; i++) check.due("21: pairing(" + i + ")", x.pairing(i), all[i]);
    check.due("21: behind the last", x.pairing(5), -1);
    // Changing two things leaves the part of both, and of parts with one of them none.
    long[][] changes = {{2, 1, 0}, {0, 2, 1}, {1, 0, 2}};
    for (int c = 0; c < 3; c++) {
      x.fresh(3);
      States.tellAct(x, 1, changes[c]);
      check.due("20: three are left", x.pairings(), 3);
      check.due("21: all in one", x.pairing(0), 0);
      check.due("21: the two in one", x.pairing(1), all[1 + c]);
      check.due("21: each alone", x.pairing(2), 36);
      check.due("21: behind the last of three", x.pairing(3), -1);
    }
    x.fresh(2);
    check.due("21: both in one", x.pairing(0), 0);
    check.due("21: each alone", x.pairing(1), 4);
    check.due("21: behind the last of two", x.pairing(2), -1);
  }

  private static void promise21PairingRefusals() {
    for (int far : FAR) check.refusedAnywhere("21: pairing(" + far + ")", x -> x.pairing(far), -1);
    check.refusedAnywhere("21: pairing(5)", x -> x.pairing(5), -1);
    check.refusedIn("full 2", "21: pairing(2) of two things", x -> x.pairing(2), -1);
  }

  private static void promise22SignsNoneAndAll() {
    for (int k = 1; k <= 3; k++) {
      long[] last = new long[8];
      for (int r = 0; r < 8; r++) last[r] = r & 1;
      ActBench x = States.empty(2);
      States.tellAct(x, k, last);
      check.due("22: what stands at the last place has all", x.signs(0), 31);
      States.tellAct(x, k, 0, 0, 0, 0, 0, 0, 0, 0);
      check.due("22: always 0", x.signs(1), 1 | 4 | 16);
      x.fresh(2);
      States.tellAct(x, k, 1, 1, 1, 1, 1, 1, 1, 1);
      check.due("22: always 1", x.signs(0), 2 | 4 | 16);
    }
    ActBench y = States.empty(2);
    States.tellAct(y, 2, 1, 1, 1, 0);
    States.tellAct(y, 3, 1, 1, 1, 1, 1, 1, 1, 0);
    States.tellAct(y, 3, 1, 0, 1, 1, 1, 1, 0, 0);
    for (int a = 0; a < 3; a++) check.due("22: act " + a + " has none", y.signs(a), 0);
  }

  private static void promise22SignsOneByOne() {
    ActBench x = States.empty(2);
    States.tellAct(x, 2, 0, 1, 0, 0);
    check.due("22: 0 for 0s alone", x.signs(0), 1);
    States.tellAct(x, 2, 1, 1, 0, 1);
    check.due("22: 1 for 1s alone", x.signs(1), 2);
    States.tellAct(x, 2, 0, 0, 0, 1);
    check.due("22: never less, 0 for 0s, 1 for 1s", x.signs(2), 7);
    States.tellAct(x, 3, 1, 1, 1, 0, 1, 0, 0, 0);
    check.due("22: turned alone", x.signs(3), 8);
    States.tellAct(x, 2, 1, 0, 0, 1);
    check.due("22: a sum and one more", x.signs(4), 2 | 16);
    States.tellAct(x, 3, 0, 0, 1, 1, 1, 1, 0, 0);
    check.due("22: a sum of two of three places", x.signs(5), 1 | 16);
    States.tellAct(x, 1, 1, 0);
    check.due("22: not", x.signs(6), 8 | 16);
    ActBench y = States.empty(2);
    States.tellAct(y, 3, 0, 1, 1, 0, 1, 0, 0, 1);
    check.due("22: a sum of all three places", y.signs(0), 1 | 2 | 8 | 16);
    y.fresh(2);
    States.tellAct(y, 3, 0, 1, 1, 1, 1, 1, 1, 1);
    check.due("22: or never falls", y.signs(0), 7);
    States.tellAct(y, 3, 0, 0, 0, 0, 0, 0, 0, 1);
    check.due("22: and never falls", y.signs(1), 7);
    long[] or = {0, 1, 1, 1, 1, 1, 1, 1};
    for (int r : new int[] {3, 5, 6, 7}) {
      or[r] = 0;
      y.fresh(2);
      States.tellAct(y, 3, or);
      check.due("22: it falls at row " + r, y.signs(0) & 4, 0);
      or[r] = 1;
    }
  }

  private static void promise22SignsRefusals() {
    for (int far : FAR) check.refusedAnywhere("22: no act " + far, x -> x.signs(far), -1);
    check.refusedIn("new", "22: no act 0", x -> x.signs(0), -1);
    check.refusedIn("some 2", "22: no act 2 of two", x -> x.signs(2), -1);
    check.refusedIn("full 2", "22: no act 8 of eight", x -> x.signs(8), -1);
    for (int a = 0; a <= 8; a++) {
      int act = a;
      check.refusedIn("full 3", "22: three things, act " + a, x -> x.signs(act), -1);
    }
    check.due("22: act 7 of eight", States.full(2).signs(7), 1 | 4 | 16);
  }

  private static void promise23WholeWithoutActs() {
    check.due("23: without acts", States.empty(2).whole(), 0);
    ActBench x = States.empty(2);
    for (int a = 0; a < 7; a++) States.tellAct(x, 1, 0, 1);
    check.due("23: seven that have all signs", x.whole(), 0);
    States.tellAct(x, 2, 1, 1, 1, 0);
    check.due("23: the eighth has none", x.whole(), 1);
  }

  /** For each bit acts of which all have it, and of each other bit one has it not. */
  private static void promise23WholeLacksOneBit() {
    long[][][] acts = {
      {{0, 1, 0, 0}, {0, 1, 1, 0}},
      {{1, 1, 0, 1}, {1, 0, 0, 1}},
      {{0, 0, 0, 1}, {1, 1, 1, 1}, {0, 0, 0, 0}},
      {{1, 1, 1, 0, 1, 0, 0, 0}},
      {{1, 0}, {0, 1, 1, 0}},
    };
    long[] without = {1, 1, 1, 0};
    for (int bit = 0; bit < 5; bit++) {
      ActBench x = States.empty(2);
      for (long[] tells : acts[bit]) States.tellAct(x, tells.length == 2 ? 1 : tells.length == 4 ? 2 : 3, tells);
      int shared = 31;
      for (int a = 0; a < acts[bit].length; a++) shared &= x.signs(a);
      check.due("23: only bit " + bit + " is in all", shared, 1 << bit);
      check.due("23: so they make not all", x.whole(), 0);
      States.tellAct(x, 2, without);
      check.due("23: with one that has it not they do", x.whole(), 1);
    }
  }

  private static void promise23WholeRefusals() {
    for (String state : new String[] {"empty 3", "some 3", "full 3", "too many"}) {
      check.refusedIn(state, "23: three things", x -> x.whole(), -1);
    }
  }

  private static void promise24RiddleFewestAndMost() {
    for (int d = 2; d <= 3; d++) {
      for (int u = 1; u <= 8; u++) {
        ActBench x = States.full(d);
        check.due("24: riddle(" + u + ")", x.riddle(u), true);
        check.due("24: so many unknowns", x.count(3), u);
        check.due("24: no asks", x.count(4), 0);
        check.due("24: laws stay", x.count(2), 12);
        check.due("24: acts stay", x.count(1), 8);
        check.due("24: all rows answer", x.answers(), (int) Math.pow(d, u));
        check.due("24: the last unknown", x.narrowed(u - 1), (1 << d) - 1);
        check.due("24: none behind", x.narrowed(u), -1);
        check.due("24: asks are numbered from 0 on", x.ask(0, u - 1, 0, 0), 0);
      }
    }
  }

  private static void promise24RiddleRefusals() {
    for (int u : new int[] {0, 9, -1, Integer.MIN_VALUE, Integer.MAX_VALUE}) {
      check.refusedAnywhere("24: riddle(" + u + ")", x -> x.riddle(u) ? 1 : 0, 0);
    }
  }

  private static void promise25AskUnknowns() {
    for (int u = 1; u <= 8; u++) {
      ActBench x = States.empty(2);
      for (int k = 1; k <= 3; k++) States.tellLaw(x, k, 0);
      x.riddle(u);
      check.due("25: the last unknown", x.ask(0, u - 1, 0, 0), 0);
      check.due("25: the last unknown", x.ask(1, u - 1, u - 1, 0), 1);
      check.due("25: the last unknown", x.ask(2, u - 1, u - 1, u - 1), 2);
      for (int bad : new int[] {u, -1, 8, Integer.MIN_VALUE, Integer.MAX_VALUE}) {
        for (int l = 0; l < 3; l++) check.due("25: x is none", x.ask(l, bad, 0, 0), -2);
        for (int l = 1; l < 3; l++) check.due("25: y is none", x.ask(l, 0, bad, 0), -2);
        check.due("25: z is none", x.ask(2, 0, 0, bad), -2);
      }
      check.due("25: refused ones are not there", x.count(4), 3);
    }
  }

  private static void promise25AskPlacesBeyond() {
    for (int far : new int[] {Integer.MIN_VALUE, -1, 8, Integer.MAX_VALUE}) {
      ActBench x = States.empty(3);
      States.tellLaw(x, 1, 2);
      States.tellLaw(x, 2, 21);
      x.riddle(2);
      check.due("25: y and z beyond one place", x.ask(0, 0, far, far), 0);
      check.due("25: z beyond two places", x.ask(1, 0, 1, far), 1);
      check.due("25: unknown 0", x.narrowed(0), 4);
      check.due("25: unknown 1", x.narrowed(1), 2);
      check.due("25: the answer", x.answer(0), 7);
      check.due("25: the only one", x.answers(), 1);
    }
  }

  private static void promise25AskThirty() {
    for (int d = 2; d <= 3; d++) {
      ActBench x = States.empty(d);
      States.tellLaw(x, 1, 0, 1);
      States.tellLaw(x, 1, 1);
      x.riddle(2);
      for (int i = 0; i < 29; i++) check.due("25: ask " + i, x.ask(0, 0, 0, 0), i);
      check.due("25: answers of 29", x.answers(), 2 * d);
      check.due("25: the thirtieth", x.ask(1, 1, 0, 0), 29);
      check.due("25: it counts", x.answers(), 2);
      check.due("25: it narrows", x.narrowed(1), 2);
      check.due("25: a thirty-first", x.ask(1, 0, 0, 0), -8);
      check.due("25: it does not count", x.answers(), 2);
      check.due("25: it does not narrow", x.narrowed(0), 3);
      check.due("25: thirty", x.count(4), 30);
      x.riddle(2);
      check.due("25: another riddle has room again", x.ask(1, 0, 0, 0), 0);
    }
  }

  private static void promise25AskRefusals() {
    for (int far : FAR) check.refusedAnywhere("25: no law " + far, x -> x.ask(far, 0, 0, 0), -2);
    check.refusedIn("new", "25: no law 0", x -> x.ask(0, 0, 0, 0), -2);
    check.refusedIn("some 2", "25: no law 3 of three", x -> x.ask(3, 0, 0, 0), -2);
    check.refusedIn("some 2", "25: no unknown 3 of three", x -> x.ask(1, 3, 0, 0), -2);
    check.refusedIn("some 3", "25: no unknown 3 at the second place", x -> x.ask(0, 0, 3, 0), -2);
    check.refusedIn("some 3", "25: no unknown -1 at the second place", x -> x.ask(0, 0, -1, 0), -2);
    check.refusedIn("some 3", "25: no unknown 3 at the third place", x -> x.ask(2, 0, 0, 3), -2);
    check.refusedIn("some 2", "25: no unknown -1 at the third place", x -> x.ask(2, 0, 0, -1), -2);
    for (String state : new String[] {"full 2", "full 3"}) {
      for (int l = 0; l < 12; l++) {
        int law = l;
        check.refusedIn(state, "25: a thirty-first, law " + l, x -> x.ask(law, 7, 7, 7), -8);
      }
    }
  }

  private static void promise25AskFirstRefusal() {
    for (String state : new String[] {"full 2", "full 3"}) {
      check.refusedIn(state, "25: no law 12 and thirty", x -> x.ask(12, 0, 0, 0), -2);
      check.refusedIn(state, "25: no law -1 and thirty", x -> x.ask(-1, 0, 0, 0), -2);
      check.refusedIn(state, "25: no unknown 8 and thirty", x -> x.ask(0, 8, 0, 0), -2);
      check.refusedIn(state, "25: no unknown -1 and thirty", x -> x.ask(0, 0, -1, 0), -2);
      check.refusedIn(state, "25: no unknown at the third and thirty", x -> x.ask(1, 0, 0, 8), -2);
      check.refusedIn(state, "25: none beyond two places, and thirty", x -> x.ask(0, 0, 0, 8), -8);
    }
  }

  private static void promise26NarrowedMostAndNone() {
    for (int d = 2; d <= 3; d++) {
      int all = (1 << d) - 1;
      ActBench x = States.empty(d);
      for (int k = 1; k <= 3; k++) States.tellLaw(x, k);
      x.riddle(8);
      for (int u = 0; u < 8; u++) check.due("26: without asks all", x.narrowed(u), all);
      x.ask(0, 0, 0, 0);
      x.ask(1, 2, 3, 0);
      x.ask(2, 5, 6, 7);
      int[] left = {0, all, 0, 0, all, 0, 0, 0};
      for (int u = 0; u < 8; u++) check.due("26: laws without rows leave none", x.narrowed(u), left[u]);
      check.due("26: and no answer", x.answers(), 0);
    }
  }

  private static void promise26NarrowedOneThatStandsTwice() {
    int[][] at = {{0, 0, 1}, {0, 1, 0}, {1, 0, 0}, {0, 0, 0}};
    for (int[] unknowns : at) {
      ActBench x = States.empty(3);
      States.tellLaw(x, 3, 12, 21, 102, 120, 201, 210);
      x.riddle(2);
      x.ask(0, unknowns[0], unknowns[1], unknowns[2]);
      check.due("26: all differ, but two are one", x.narrowed(0), 0);
      States.tellLaw(x, 3, 112, 121, 211, 222, 12);
      x.riddle(2);
      x.ask(1, unknowns[0], unknowns[1], unknowns[2]);
      boolean isOne = unknowns[0] + unknowns[1] + unknowns[2] == 0;
      check.due("26: the same at both", x.narrowed(0), isOne ? 4 : 6);
      check.due("26: the third", x.narrowed(1), isOne ? 7 : 4);
    }
    ActBench y = States.empty(3);
    States.tellLaw(y, 2, 1, 11, 20);
    y.riddle(1);
    y.ask(0, 0, 0, 0);
    check.due("26: of two places", y.narrowed(0), 2);
  }

  /** Seven unknowns in a row, each less than the next or the same: the last ask tells back to the first. */
  private static void promise26NarrowedFarAlong() {
    for (int way = 0; way < 2; way++) {
      ActBench x = States.empty(3);
      States.tellLaw(x, 2, 0, 1, 2, 11, 12, 22);
      States.tellLaw(x, 1, 0);
      States.tellLaw(x, 1, 2);
      x.riddle(8);
      for (int i = 0; i < 7; i++) {
        int u = way == 0 ? i : 6 - i;
        x.ask(0, u, u + 1, 0);
      }
      for (int u = 0; u < 8; u++) check.due("26: all may be all", x.narrowed(u), 7);
      x.ask(1, 7, 0, 0);
      for (int u = 0; u < 8; u++) check.due("26: the last is 0, so all are", x.narrowed(u), 1);
      x.ask(2, 0, 0, 0);
      for (int u = 0; u < 8; u++) check.due("26: the first is 2, so none is left", x.narrowed(u), 0);
    }
  }

  /** Things go one by one: 0 from the first unknown to the last, then 1, as the first needs the last's 0 for it. */
  private static void promise26NarrowedOneByOne() {
    ActBench x = States.empty(3);
    States.tellLaw(x, 2, 0, 11, 2, 12, 22);
    States.tellLaw(x, 2, 0, 10, 20, 1, 2, 12, 22);
    States.tellLaw(x, 1, 1, 2);
    x.riddle(8);
    for (int u = 6; u >= 0; u--) x.ask(0, u, u + 1, 0);
    x.ask(1, 7, 0, 0);
    for (int u = 0; u < 8; u++) check.due("26: all are left", x.narrowed(u), 7);
    x.ask(2, 0, 0, 0);
    for (int u = 0; u < 8; u++) check.due("26: only 2 is left", x.narrowed(u), 4);
  }

  /** Of three places: a row counts only if all three unknowns have its things. */
  private static void promise26NarrowedThreePlaces() {
    for (int closed = 0; closed < 3; closed++) {
      ActBench x = States.empty(3);
      States.tellLaw(x, 3, 0, 111, 222);
      States.tellLaw(x, 1, 0, 2);
      x.riddle(3);
      x.ask(0, 0, 1, 2);
      x.ask(1, closed, 0, 0);
      for (int u = 0; u < 3; u++) check.due("26: 1 is gone from all three", x.narrowed(u), 5);
    }
  }

  private static void promise26NarrowedRefusals() {
    for (int far : FAR) check.refusedAnywhere("26: no unknown " + far, x -> x.narrowed(far), -1);
    check.refusedAnywhere("26: no unknown 8", x -> x.narrowed(8), -1);
    check.refusedIn("new", "26: no unknown 1 of one", x -> x.narrowed(1), -1);
    check.refusedIn("some 3", "26: no unknown 3 of three", x -> x.narrowed(3), -1);
  }

  private static void promise27AnswersMostAndNone() {
    ActBench x = States.empty(3);
    x.riddle(8);
    check.due("27: the most", x.answers(), 6561);
    States.tellLaw(x, 1);
    States.tellLaw(x, 1, 0, 1, 2);
    States.tellLaw(x, 3, 12);
    x.ask(1, 7, 0, 0);
    check.due("27: the most, though asked", x.answers(), 6561);
    x.ask(2, 7, 0, 3);
    check.due("27: three told", x.answers(), 243);
    x.ask(0, 4, 0, 0);
    check.due("27: none", x.answers(), 0);
    check.due("28: none", x.answer(0), -1);
    x.riddle(8);
    check.due("27: the most again", x.answers(), 6561);
    x.fresh(2);
    check.due("27: of one unknown", x.answers(), 2);
    x.riddle(8);
    check.due("27: the most of two things", x.answers(), 256);
  }

  private static void promise28AnswerFirstAndLast() {
    for (int d = 2; d <= 3; d++) {
      for (int u = 1; u <= 8; u++) {
        int all = (int) Math.pow(d, u);
        ActBench x = States.empty(d);
        x.riddle(u);
        check.due("28: the first", x.answer(0), 0);
        check.due("28: the last", x.answer(all - 1), all - 1);
        check.due("28: behind the last", x.answer(all), -1);
        check.due("28: ahead of the first", x.answer(-1), -1);
        States.tellLaw(x, 1, d - 1);
        x.ask(0, 0, 0, 0);
        int few = all / d;
        check.due("28: unknown 0 counts most, first", x.answer(0), (d - 1) * few);
        check.due("28: unknown 0 counts most, last", x.answer(few - 1), all - 1);
        check.due("28: no more of these", x.answer(few), -1);
        x.riddle(u);
        x.ask(0, u - 1, 0, 0);
        check.due("28: the last unknown counts least, first", x.answer(0), d - 1);
        check.due("28: the last unknown counts least, last", x.answer(few - 1), all - 1);
      }
    }
  }

  private static void promise28AnswerRefusals() {
    for (int far : FAR) check.refusedAnywhere("28: answer(" + far + ")", x -> x.answer(far), -1);
    check.refusedAnywhere("28: answer(6561)", x -> x.answer(6561), -1);
    check.refusedIn("new", "28: answer(2) of two", x -> x.answer(2), -1);
  }

  private static void promise29QuickWithoutAsks() {
    for (int u : new int[] {1, 8}) {
      ActBench x = States.empty(2);
      States.tellLaw(x, 3, 1, 10, 100);
      x.riddle(u);
      check.due("29: a half of two", x.quick(0), 8);
      check.due("29: a most of two", x.quick(1), 232);
      check.due("29: the sum of two", x.quick(2), 150);
      x.fresh(3);
      States.tellLaw(x, 2, 1, 2, 10, 12, 20, 21);
      x.riddle(u);
      check.due("29: a half of three", x.quick(0), leastHalf());
      check.due("29: a most of three", x.quick(1), most(0, 0, 0, 0, 0, 0));
      check.due("29: the sum of three", x.quick(2), sumOfThree());
    }
  }

  /** A most of three things, with what it tells for 0 1 2, 0 2 1, 1 0 2, 1 2 0, 2 0 1, 2 1 0. */
  private static long most(int... free) {
    long code = 0;
    int next = 5;
    for (int r = 26; r >= 0; r--) {
      int a = r / 9;
      int b = r / 3 % 3;
      int c = r % 3;
      code = code * 3 + (a == b || a == c ? a : b == c ? b : free[next--]);
    }
    return code;
  }

  private static long sumOfThree() {
    long code = 0;
    for (int r = 26; r >= 0; r--) code = code * 3 + (r / 9 - r / 3 % 3 + r % 3 + 3) % 3;
    return code;
  }

  private static long leastHalf() {
    long least = Long.MAX_VALUE;
    for (int pick = 0; pick < 27; pick++) {
      int[] h = {0, pick % 3, pick / 3 % 3, pick % 3, 1, pick / 9, pick / 3 % 3, pick / 9, 2};
      boolean isHalf = true;
      for (int r = 0; r < 27; r++) {
        isHalf &= h[h[r / 9 * 3 + r / 3 % 3] * 3 + r % 3] == h[r / 9 * 3 + h[r / 3 % 3 * 3 + r % 3]];
      }
      long code = 0;
      for (int r = 8; r >= 0; r--) code = code * 3 + h[r];
      if (isHalf) least = Math.min(least, code);
    }
    return least;
  }

  private static void promise29QuickLeast() {
    ActBench x = States.empty(3);
    States.tellLaw(x, 2, 1, 12, 20);
    x.ask(0, 0, 0, 0);
    check.due("29: the least most that a round keeps", x.quick(1), leastRoundMost());
    check.due("29: the sum keeps a round", x.quick(2), sumOfThree());
    check.due("29: no half does", x.quick(0), -7);
    ActBench y = States.empty(2);
    States.tellLaw(y, 2, 1, 10, 11);
    y.riddle(2);
    y.ask(0, 0, 1, 0);
    check.due("29: the least half is or then", y.quick(0), 14);
    ActBench z = States.empty(2);
    States.tellLaw(z, 2, 0, 1, 11);
    z.riddle(2);
    z.ask(0, 0, 1, 0);
    check.due("29: of and and or the least", z.quick(0), 8);
  }

  /** By hand: of all mosts, the least that tells one more (round) for things that are one more each. */
  private static long leastRoundMost() {
    long least = Long.MAX_VALUE;
    // 0 1 2 goes to 1 2 0 and 2 0 1; 0 2 1 to 1 0 2 and 2 1 0.
    for (int a = 0; a < 3; a++) {
      for (int b = 0; b < 3; b++) {
        least = Math.min(least, most(a, b, (b + 1) % 3, (a + 1) % 3, (a + 2) % 3, (b + 2) % 3));
      }
    }
    return least;
  }

  private static void promise29QuickNot() {
    for (int d = 2; d <= 3; d++) {
      ActBench x = States.empty(d);
      States.tellLaw(x, 3, 1, 10, 100);
      States.tellLaw(x, 3);
      x.riddle(3);
      x.ask(1, 0, 1, 2);
      for (int kind = 0; kind < 3; kind++) check.due("29: a law without rows is kept", x.quick(kind) >= 0, true);
      for (int i = 1; i < 29; i++) x.ask(1, 0, 1, 2);
      check.due("29: 29 asks", x.quick(0) >= 0, true);
      x.ask(0, 0, 1, 2);
      for (int kind = 0; kind < 3; kind++) check.due("29: the thirtieth's law is not", x.quick(kind), -7);
    }
    check.refusedIn("some 2", "29: not quick by a half", x -> x.quick(0), -7);
    check.refusedIn("some 2", "29: not quick by a most", x -> x.quick(1), -7);
    check.refusedIn("some 2", "29: not quick by the sum", x -> x.quick(2), -7);
  }

  private static void promise29QuickRefusals() {
    for (int kind : new int[] {3, -1, Integer.MIN_VALUE, Integer.MAX_VALUE}) {
      check.refusedAnywhere("29: quick(" + kind + ")", x -> x.quick(kind), -1);
    }
  }

  private static void promise30CountEmptyAndFull() {
    for (int d = 2; d <= 3; d++) {
      int[] none = {d, 0, 0, 1, 0, 0};
      int[] most = {d, 8, 12, 8, 30, 8};
      for (int what = 0; what < 6; what++) {
        check.due("30: count(" + what + ") of nothing", States.empty(d).count(what), none[what]);
        check.due("30: count(" + what + ") of all", States.full(d).count(what), most[what]);
      }
    }
    int[] some = {2, 2, 3, 3, 2, 6};
    for (int what = 0; what < 6; what++) check.due("30: count(" + what + ") of some", States.some(2).count(what), some[what]);
  }

  private static void promise30CountRefusals() {
    for (int what : new int[] {6, -1, Integer.MIN_VALUE, Integer.MAX_VALUE}) {
      check.refusedAnywhere("30: count(" + what + ")", x -> x.count(what), -1);
    }
  }
}
