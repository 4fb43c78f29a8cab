/** Boundary cases of promises 8 to 17: acts, laws, what is made, and acts of laws. */
public final class ActEdgesTest {
  private static final int[] FAR = {Integer.MIN_VALUE, -1, Integer.MAX_VALUE};
  private static final Check check = new Check();

  public static void main(String[] args) {
    promise8AtRows();
    promise8AtRefusals();
    promise9LawOfBits();
    promise9LawOfRefusals();
    promise10KeepsWithoutRowsAndWithAll();
    promise10KeepsOneRow();
    promise10KeepsRefusals();
    promise11ClosedLeastAndGreatest();
    promise11ClosedOfLastAct();
    promise11ClosedRefusals();
    promise12LawsOfOneAndTwo();
    promise12LawsRefusals();
    promise13MadePlaces();
    promise13MadeRefusals();
    promise13MadeUpTo256();
    promise13MadeForgetsNothingTooEarly();
    promise14MadeOfFirstAndLast();
    promise14MadeOfRefusals();
    promise14MadeOfNone();
    promise15SizeCodes();
    promise15SizeRefusals();
    promise15SizeNotMade();
    promise15SizeOfNone();
    promise16ActsOfPlaces();
    promise16ActsOfMasks();
    promise16ActsOfFewest();
    promise16ActsOfRefusals();
    promise17ActOfFirstAndLast();
    promise17ActOfRefusals();
    check.end("edges of acts and laws");
  }

  private static void promise8AtRows() {
    int[][] rows = {{2, 4, 8}, {3, 9, 27}};
    for (int d = 2; d <= 3; d++) {
      for (int k = 1; k <= 3; k++) {
        int many = rows[d - 2][k - 1];
        ActBench x = States.empty(d);
        long[] tells = new long[many];
        for (int r = 0; r < many; r++) tells[r] = (r * r + r / 2 + 1) % d;
        States.tellAct(x, k, tells);
        for (int r = 0; r < many; r++) check.due("8: row " + r + " of " + k + " places", x.at(0, r), tells[r]);
        check.due("8: behind the last row", x.at(0, many), -1);
        check.due("8: ahead of the first row", x.at(0, -1), -1);
      }
    }
    ActBench y = States.full(2);
    check.due("8: the last act", y.at(7, 7), 0);
    check.due("8: the last but one", y.at(6, 1), 1);
    check.due("8: behind its last row", y.at(6, 2), -1);
  }

  private static void promise8AtRefusals() {
    for (int far : FAR) {
      check.refusedAnywhere("8: no act " + far, x -> x.at(far, 0), -1);
      check.refusedAnywhere("8: no row " + far, x -> x.at(0, far), -1);
      check.refusedAnywhere("8: neither", x -> x.at(far, far), -1);
    }
    check.refusedIn("new", "8: no act 0", x -> x.at(0, 0), -1);
    check.refusedIn("some 2", "8: no act 2 of two", x -> x.at(2, 0), -1);
    check.refusedIn("full 2", "8: no act 8 of eight", x -> x.at(8, 0), -1);
    check.refusedIn("full 3", "8: no row 27", x -> x.at(7, 27), -1);
    check.refusedIn("full 2", "8: no row 8", x -> x.at(7, 8), -1);
  }

  private static void promise9LawOfBits() {
    int[][] rows = {{2, 4, 8}, {3, 9, 27}};
    for (int d = 2; d <= 3; d++) {
      for (int k = 1; k <= 3; k++) {
        int last = rows[d - 2][k - 1] - 1;
        ActBench x = States.empty(d);
        check.due("9: no law yet", x.lawOf(0), -1);
        States.tellLaw(x, k, 0);
        check.due("9: the first bit", x.lawOf(0), 1);
        States.tellLaw(x, k, (d - 1) * (k == 1 ? 1 : k == 2 ? 11 : 111));
        check.due("9: the last bit", x.lawOf(1), 1L << last);
        States.tellLaw(x, k);
        check.due("9: no bit", x.lawOf(2), 0);
        check.due("9: no law behind", x.lawOf(3), -1);
      }
    }
  }

  private static void promise9LawOfRefusals() {
    for (int far : FAR) check.refusedAnywhere("9: no law " + far, x -> x.lawOf(far), -1);
    check.refusedIn("new", "9: no law 0", x -> x.lawOf(0), -1);
    check.refusedIn("some 3", "9: no law 3 of three", x -> x.lawOf(3), -1);
    check.refusedIn("full 3", "9: no law 12 of twelve", x -> x.lawOf(12), -1);
    check.due("9: law 11 of twelve", States.full(3).lawOf(11) > 0, true);
  }

  private static void promise10KeepsWithoutRowsAndWithAll() {
    for (int d = 2; d <= 3; d++) {
      for (int k = 1; k <= 3; k++) {
        ActBench x = States.empty(d);
        long[] tells = new long[27];
        for (int r = 0; r < 27; r++) tells[r] = (r * 7 + 1) % d;
        States.tellAct(x, k, tells);
        for (int p = 1; p <= 3; p++) States.tellLaw(x, p);
        States.tellLaw(x, 1, d == 2 ? new int[] {0, 1} : new int[] {0, 1, 2});
        States.tellLaw(x, 2, d == 2 ? new int[] {0, 1, 10, 11} : new int[] {0, 1, 2, 10, 11, 12, 20, 21, 22});
        for (int l = 0; l < 5; l++) check.due("10: no rows, or all, law " + l + " of " + k + " places", x.keeps(0, l), 1);
      }
    }
    ActBench y = States.empty(2);
    States.tellAct(y, 3, 1, 0, 0, 0, 0, 0, 0, 0);
    States.tellLaw(y, 3, 0, 1, 10, 11, 100, 101, 110, 111);
    States.tellLaw(y, 3, 0, 1, 10, 11, 100, 101, 110);
    check.due("10: all of three places", y.keeps(0, 0), 1);
    check.due("10: all but one", y.keeps(0, 1), 0);
  }

  /** One row may come again: of a law of one row the act tells for rows of the same things. */
  private static void promise10KeepsOneRow() {
    for (int k = 1; k <= 3; k++) {
      int last = (1 << k) - 1;
      ActBench x = States.empty(2);
      for (int p = 1; p <= 3; p++) States.tellLaw(x, p, p == 1 ? 1 : p == 2 ? 11 : 111);
      long[] tells = new long[8];
      tells[last] = 1;
      States.tellAct(x, k, tells);
      tells[last] = 0;
      tells[0] = 1;
      States.tellAct(x, k, tells);
      for (int l = 0; l < 3; l++) {
        check.due("10: it tells 1 for 1s", x.keeps(0, l), 1);
        check.due("10: it does not", x.keeps(1, l), 0);
      }
    }
  }

  private static void promise10KeepsRefusals() {
    for (int far : FAR) {
      check.refusedAnywhere("10: no act " + far, x -> x.keeps(far, 0), -1);
      check.refusedAnywhere("10: no law " + far, x -> x.keeps(0, far), -1);
      check.refusedAnywhere("10: neither", x -> x.keeps(far, far), -1);
    }
    check.refusedIn("new", "10: neither act nor law 0", x -> x.keeps(0, 0), -1);
    check.refusedIn("some 2", "10: no act 2 of two", x -> x.keeps(2, 0), -1);
    check.refusedIn("some 2", "10: no law 3 of three", x -> x.keeps(0, 3), -1);
    check.refusedIn("full 3", "10: no act 8 of eight", x -> x.keeps(8, 11), -1);
    check.refusedIn("full 3", "10: no law 12 of twelve", x -> x.keeps(7, 12), -1);
    check.due("10: the last of both", States.full(3).keeps(7, 11) >= 0, true);
    ActBench y = States.empty(2);
    States.tellLaw(y, 1, 0);
    check.due("10: a law without an act", y.keeps(0, 0), -1);
    ActBench z = States.empty(2);
    States.tellAct(z, 1, 0, 1);
    check.due("10: an act without a law", z.keeps(0, 0), -1);
  }

  private static void promise11ClosedLeastAndGreatest() {
    for (int d = 2; d <= 3; d++) {
      for (int k = 1; k <= 3; k++) {
        int rows = (int) Math.pow(d, k);
        long all = (1L << rows) - 1;
        ActBench x = States.empty(d);
        States.tellLaw(x, k);
        States.tellLaw(x, k, 1);
        check.due("11: without acts, no rows", x.closed(0), 0);
        check.due("11: without acts, one row", x.closed(1), x.lawOf(1));
        States.tellAct(x, 1, d == 2 ? new long[] {1, 0} : new long[] {1, 2, 0});
        check.due("11: no rows stay none", x.closed(0), 0);
        check.due("11: one row comes round", Long.bitCount(x.closed(1)), d);
        if (k == 1) check.due("11: all things", x.closed(1), all);
        // With and (or the lesser one) too, all rows that have one thing where the row has: 0, .., 0, 1 has two kinds of places.
        States.tellAct(x, 2, d == 2 ? new long[] {1, 1, 1, 0} : new long[] {1, 1, 1, 1, 2, 2, 1, 2, 0});
        check.due("11: as many as things at two kinds of places", Long.bitCount(x.closed(1)), k == 1 ? d : d * d);
        if (k == 2) check.due("11: all rows of two", x.closed(1), all);
        check.due("11: the law itself stays", x.lawOf(1), 2);
        check.due("11: none without rows", x.closed(0), 0);
      }
    }
    ActBench y = States.empty(3);
    States.tellLaw(y, 3, 12);
    States.tellAct(y, 2, 1, 1, 1, 1, 2, 2, 1, 2, 0);
    check.due("11: all 27 rows", y.closed(0), (1L << 27) - 1);
  }

  /** A row that the first act makes is one for the last act, and what that makes one for the first. */
  private static void promise11ClosedOfLastAct() {
    ActBench x = States.empty(3);
    States.tellLaw(x, 1, 0);
    States.tellAct(x, 1, 0, 2, 2);
    for (int a = 1; a < 7; a++) States.tellAct(x, 1, 0, 1, 2);
    check.due("11: nothing new yet", x.closed(0), 1);
    States.tellAct(x, 1, 1, 1, 2);
    check.due("11: the last act's thing is one for the first", x.closed(0), 7);
  }

  private static void promise11ClosedRefusals() {
    for (int far : FAR) check.refusedAnywhere("11: no law " + far, x -> x.closed(far), -1);
    check.refusedIn("new", "11: no law 0", x -> x.closed(0), -1);
    check.refusedIn("some 2", "11: no law 3 of three", x -> x.closed(3), -1);
    check.refusedIn("full 2", "11: no law 12 of twelve", x -> x.closed(12), -1);
    check.due("11: law 11 of twelve", States.full(2).closed(11) > 0, true);
  }

  private static void promise12LawsOfOneAndTwo() {
    int[][] all = {{4, 16}, {8, 512}};
    for (int d = 2; d <= 3; d++) {
      for (int k = 1; k <= 2; k++) {
        ActBench x = States.empty(d);
        check.due("12: all of them", x.laws(k), all[d - 2][k - 1]);
        States.tellAct(x, 2, d == 2 ? new long[] {1, 1, 1, 0} : new long[] {1, 1, 1, 1, 2, 2, 1, 2, 0});
        // What all acts keep: of one place none and all; of two also, that both things are the same.
        check.due("12: the fewest", x.laws(k), k == 1 ? 2 : 3);
        for (int a = 1; a < 8; a++) States.tellAct(x, 1, 0, 1, 2);
        check.due("12: eight acts", x.laws(k), k == 1 ? 2 : 3);
      }
    }
    ActBench y = States.empty(2);
    for (int a = 0; a < 7; a++) States.tellAct(y, 1, 0, 1);
    check.due("12: seven that keep all", y.laws(1), 4);
    States.tellAct(y, 1, 1, 0);
    check.due("12: the eighth does not", y.laws(1), 2);
  }

  private static void promise12LawsRefusals() {
    for (int k : new int[] {0, 3, 4, -1, Integer.MIN_VALUE, Integer.MAX_VALUE}) {
      check.refusedAnywhere("12: laws(" + k + ")", x -> x.laws(k), -1);
    }
  }

  private static void promise13MadePlaces() {
    ActBench x = States.empty(2);
    for (int n = 1; n <= 3; n++) check.due("13: places alone", x.made(n), n);
    x.fresh(3);
    for (int n = 1; n <= 2; n++) check.due("13: places alone of three", x.made(n), n);
    check.due("13: no three places of three", x.made(3), -1);
    x.fresh(2);
    check.due("13: three places of two again", x.made(3), 3);
  }

  private static void promise13MadeRefusals() {
    for (int n : new int[] {0, 4, -1, Integer.MIN_VALUE, Integer.MAX_VALUE}) {
      check.refusedAnywhere("13: made(" + n + ")", x -> x.made(n), -1);
    }
    for (String state : new String[] {"empty 3", "some 3", "full 3", "too many"}) {
      check.refusedIn(state, "13: made(3) of three", x -> x.made(3), -1);
    }
    check.refusedIn("too many", "13: more than 256", x -> x.made(2), -8);
  }

  /** These acts were searched for: they make just as many as 256 allows, and one more. */
  private static void promise13MadeUpTo256() {
    ActBench x = States.empty(2);
    States.tellAct(x, 2, 1, 1, 1, 0);
    check.due("13: all 256 of two things", x.made(3), 256);
    for (int i = 0; i < 256; i++) check.due("13: it is among them", x.size(3, i) >= 0, true);
    ActBench y = States.empty(3);
    States.tellAct(y, 2, 2, 2, 2, 2, 1, 0, 0, 1, 2);
    check.due("13: 256 of three things", y.made(2), 256);
    check.due("14: number 255", y.madeOf(2, 255, 0) >= 0, true);
    check.due("14: no number 256", y.madeOf(2, 256, 0), -1);
    ActBench z = States.empty(3);
    States.tellAct(z, 1, 0, 0, 0);
    States.tellAct(z, 2, 2, 1, 2, 0, 1, 2, 0, 1, 0);
    check.due("13: fewer than 256 without the last act", z.made(2) >= 0, true);
    States.tellAct(z, 1, 1, 0, 1);
    check.due("13: 257 are none", z.made(2), -8);
    check.due("14: none of them", z.madeOf(2, 0, 0), -1);
    check.due("15: none of them", z.size(2, 0), -8);
    check.due("13: of one place there are", z.made(1) > 0, true);
  }

  private static void promise13MadeForgetsNothingTooEarly() {
    ActBench x = States.tooMany();
    check.due("13: none", x.made(2), -8);
    check.due("13: another n between", x.made(1) > 0, true);
    check.due("13: none still", x.made(2), -8);
    x.fresh(3);
    check.due("13: without acts there are", x.made(2), 2);
    States.tellAct(x, 1, 1, 2, 0);
    check.due("13: with another act there are more", x.made(2), 6);
    check.due("6: a refused act", x.act(1, 6), -5);
    check.due("13: as many as before", x.made(2), 6);
  }

  private static void promise14MadeOfFirstAndLast() {
    ActBench x = States.empty(2);
    States.tellAct(x, 1, 1, 0);
    int[] made = {2, 4, 6};
    int[][] codes = {{2, 1}, {10, 12, 3, 5}, {170, 204, 240, 15, 51, 85}};
    for (int n = 1; n <= 3; n++) {
      int many = made[n - 1];
      check.due("14: how many of " + n, x.made(n), many);
      for (int i = 0; i < many; i++) {
        check.due("14: code " + i + " of " + n, x.madeOf(n, i, 0), codes[n - 1][i]);
        check.due("14: size " + i + " of " + n, x.madeOf(n, i, 1), i < n ? 0 : 1);
      }
      check.due("14: behind the last", x.madeOf(n, many, 0), -1);
      check.due("14: behind the last", x.madeOf(n, many, 1), -1);
      check.due("14: ahead of the first", x.madeOf(n, -1, 0), -1);
    }
    ActBench y = States.empty(3);
    check.due("14: the place alone, of three things", y.madeOf(1, 0, 0), 21);
    check.due("14: its size", y.madeOf(1, 0, 1), 0);
    check.due("14: no other", y.madeOf(1, 1, 0), -1);
  }

  private static void promise14MadeOfRefusals() {
    for (int far : FAR) {
      check.refusedAnywhere("14: another n " + far, x -> x.madeOf(far, 0, 0), -1);
      check.refusedAnywhere("14: no number " + far, x -> x.madeOf(1, far, 0), -1);
      check.refusedAnywhere("14: another what " + far, x -> x.madeOf(1, 0, far), -1);
    }
    check.refusedAnywhere("14: n 0", x -> x.madeOf(0, 0, 0), -1);
    check.refusedAnywhere("14: n 4", x -> x.madeOf(4, 0, 0), -1);
    check.refusedAnywhere("14: what 2", x -> x.madeOf(1, 0, 2), -1);
    check.refusedAnywhere("14: number 256", x -> x.madeOf(2, 256, 1), -1);
    check.refusedIn("empty 3", "14: n 3 of three", x -> x.madeOf(3, 0, 0), -1);
  }

  private static void promise14MadeOfNone() {
    for (int i : new int[] {-1, 0, 1, 255, 256, 257}) {
      for (int what = -1; what <= 2; what++) {
        int which = what;
        check.refusedIn("too many", "14: madeOf(2, " + i + ", " + what + ") of none", x -> x.madeOf(2, i, which), -1);
      }
    }
  }

  private static void promise15SizeCodes() {
    int[][] codes = {{4, 16, 256}, {27, 19683}};
    for (int d = 2; d <= 3; d++) {
      for (int n = 1; n <= codes[d - 2].length; n++) {
        int many = codes[d - 2][n - 1];
        ActBench x = States.empty(d);
        check.due("15: the first code is not made", x.size(n, 0), -7);
        check.due("15: the last code is not made", x.size(n, many - 1), -7);
        check.due("15: none behind the last code", x.size(n, many), -1);
        check.due("15: none ahead of the first code", x.size(n, -1), -1);
        States.tellAct(x, 1, 0, 0, 0);
        States.tellAct(x, 1, d - 1, d - 1, d - 1);
        check.due("15: the first code", x.size(n, 0), 1);
        check.due("15: the last code", x.size(n, many - 1), 1);
        check.due("15: none behind the last code still", x.size(n, many), -1);
      }
    }
  }

  private static void promise15SizeRefusals() {
    for (int far : FAR) {
      check.refusedAnywhere("15: another n " + far, x -> x.size(far, 0), -1);
      check.refusedAnywhere("15: no code " + far, x -> x.size(1, far), -1);
      check.refusedAnywhere("15: neither", x -> x.size(far, far), -1);
    }
    check.refusedAnywhere("15: n 0", x -> x.size(0, 0), -1);
    check.refusedAnywhere("15: n 4", x -> x.size(4, 0), -1);
    check.refusedAnywhere("15: n 0, not made either", x -> x.size(0, 5), -1);
    check.refusedIn("empty 2", "15: code 4 of one place", x -> x.size(1, 4), -1);
    check.refusedIn("empty 2", "15: code 16 of two places", x -> x.size(2, 16), -1);
    check.refusedIn("empty 2", "15: code 256 of three places", x -> x.size(3, 256), -1);
    check.refusedIn("some 3", "15: code 27 of one place", x -> x.size(1, 27), -1);
    check.refusedIn("some 3", "15: code 19683 of two places", x -> x.size(2, 19683), -1);
    check.refusedIn("some 3", "15: n 3 of three", x -> x.size(3, 0), -1);
  }

  private static void promise15SizeNotMade() {
    check.refusedIn("some 2", "15: not is not made", x -> x.size(1, 1), -7);
    check.refusedIn("some 3", "15: a round is not made", x -> x.size(1, 1 + 2 * 3), -7);
    check.refusedIn("empty 2", "15: not made without acts", x -> x.size(3, 255), -7);
  }

  /** Told in this order: -7, -8, NONE. No code is made then, so -7 would leave -8 no case. */
  private static void promise15SizeOfNone() {
    for (int code : new int[] {0, 1, 9841, 19682}) {
      check.refusedIn("too many", "15: code " + code + " of none", x -> x.size(2, code), -8);
    }
    for (int code : new int[] {-1, 19683, Integer.MIN_VALUE, Integer.MAX_VALUE}) {
      check.refusedIn("too many", "15: no code " + code + " of none", x -> x.size(2, code), -8);
    }
    check.refusedIn("too many", "15: another n has no made ones that could be too many", x -> x.size(3, 0), -1);
    check.due("15: of one place there are", States.tooMany().size(1, 21), 0);
  }

  private static void promise16ActsOfPlaces() {
    ActBench x = States.empty(2);
    int[] all = {4, 16, 256};
    for (int n = 1; n <= 3; n++) check.due("16: all of " + n, x.actsOf(0, n), all[n - 1]);
    x.fresh(3);
    check.due("16: all of one, three things", x.actsOf(0, 1), 27);
    check.due("16: all of two, three things", x.actsOf(0, 2), 19683);
    check.due("16: not of three, three things", x.actsOf(0, 3), -1);
  }

  /** All keep a law without rows, so the bit of the one law that has a row can be told from the others. */
  private static void promise16ActsOfMasks() {
    ActBench x = States.empty(2);
    check.due("16: no laws, all bits", x.actsOf(-1, 1), 4);
    for (int l = 0; l < 11; l++) {
      States.tellLaw(x, 1);
      check.due("16: laws that all keep", x.actsOf(-1, 1), 4);
    }
    check.due("16: bit 11 does not count yet", x.actsOf(1 << 11, 1), 4);
    States.tellLaw(x, 1, 1);
    check.due("16: bit 11 counts now", x.actsOf(1 << 11, 1), 2);
    check.due("16: bit 12 does not", x.actsOf(1 << 12, 1), 4);
    check.due("16: bit 31 does not", x.actsOf(1 << 31, 1), 4);
    check.due("16: all but bit 11", x.actsOf(~(1 << 11), 1), 4);
    check.due("16: all bits", x.actsOf(-1, 1), 2);
    check.due("16: no bits", x.actsOf(0, 1), 4);
    ActBench y = States.empty(2);
    States.tellLaw(y, 1, 0);
    States.tellLaw(y, 1, 1);
    check.due("16: bit 0", y.actOf(1, 1, 1), 2);
    check.due("16: bit 1", y.actOf(2, 1, 0), 2);
    check.due("16: both", y.actsOf(3, 1), 1);
    check.due("16: bit 2 does not count", y.actsOf(4, 1), 4);
    check.due("16: a bit beyond beside one", y.actsOf(5, 1), 2);
  }

  /** What stands at a place keeps every law, so there are never fewer than places. */
  private static void promise16ActsOfFewest() {
    ActBench x = States.empty(2);
    States.tellLaw(x, 2, 0, 1, 11);
    States.tellLaw(x, 3, 0, 11, 101, 110);
    States.tellLaw(x, 1, 1);
    for (int n = 1; n <= 3; n++) check.due("16: the places alone", x.actsOf(7, n), n);
    ActBench y = States.empty(3);
    States.tellLaw(y, 2, 0, 1, 2, 11, 12, 22);
    States.tellLaw(y, 2, 1, 12, 20);
    check.due("16: the place alone of three things", y.actsOf(3, 1), 1);
    States.tellLaw(y, 3, 12, 21, 102, 120, 201, 210);
    check.due("16: the places alone of three things", y.actsOf(7, 2), 2);
    check.due("17: the second place", y.actOf(7, 2, 0), code(0, 1, 2, 0, 1, 2, 0, 1, 2));
    check.due("17: the first place", y.actOf(7, 2, 1), code(0, 0, 0, 1, 1, 1, 2, 2, 2));
    check.due("17: no more", y.actOf(7, 2, 2), -1);
  }

  private static int code(int... tells) {
    int code = 0;
    for (int r = tells.length - 1; r >= 0; r--) code = code * 3 + tells[r];
    return code;
  }

  private static void promise16ActsOfRefusals() {
    for (int n : new int[] {0, 4, -1, Integer.MIN_VALUE, Integer.MAX_VALUE}) {
      check.refusedAnywhere("16: actsOf(1, " + n + ")", x -> x.actsOf(1, n), -1);
    }
    check.refusedIn("some 3", "16: three places of three", x -> x.actsOf(0, 3), -1);
  }

  private static void promise17ActOfFirstAndLast() {
    int[][] all = {{4, 16, 256}, {27, 19683}};
    for (int d = 2; d <= 3; d++) {
      for (int n = 1; n <= all[d - 2].length; n++) {
        int many = all[d - 2][n - 1];
        ActBench x = States.empty(d);
        check.due("17: the first", x.actOf(0, n, 0), 0);
        check.due("17: the last", x.actOf(0, n, many - 1), many - 1);
        check.due("17: behind the last", x.actOf(0, n, many), -1);
        check.due("17: ahead of the first", x.actOf(0, n, -1), -1);
        States.tellLaw(x, 1, d - 1);
        // They tell the last thing for its own row, the last one.
        int few = many / d;
        check.due("17: how many keep the last thing", x.actsOf(1, n), few);
        check.due("17: the first of these", x.actOf(1, n, 0), many - few);
        check.due("17: the last of these", x.actOf(1, n, few - 1), many - 1);
        check.due("17: behind the last of these", x.actOf(1, n, few), -1);
        check.due("17: all again", x.actOf(0, n, few), few);
      }
    }
  }

  private static void promise17ActOfRefusals() {
    for (int far : FAR) {
      check.refusedAnywhere("17: another n " + far, x -> x.actOf(0, far, 0), -1);
      check.refusedAnywhere("17: no number " + far, x -> x.actOf(0, 1, far), -1);
      check.refusedAnywhere("17: neither", x -> x.actOf(far, far, far), -1);
    }
    check.refusedAnywhere("17: n 0", x -> x.actOf(1, 0, 0), -1);
    check.refusedAnywhere("17: n 4", x -> x.actOf(1, 4, 0), -1);
    check.refusedIn("empty 3", "17: three places of three", x -> x.actOf(0, 3, 0), -1);
  }
}
