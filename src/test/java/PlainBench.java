import java.math.BigInteger;
import java.util.ArrayList;
import java.util.Arrays;
import java.util.HashMap;
import java.util.HashSet;
import java.util.List;
import java.util.Map;
import java.util.Set;
import java.util.TreeSet;

/**
 * The document's words as directly as they can be written, without any care for speed, so that the
 * bench can be held against them. It shares no code with the bench.
 */
final class PlainBench {
  private static final int NONE = -1;
  private int d = 2;
  private final int[] widths = new int[8];
  private final BigInteger[][] slots = new BigInteger[8][];
  private final List<int[]> acts = new ArrayList<>();
  private final List<Integer> actPlaces = new ArrayList<>();
  private final List<Set<List<Integer>>> laws = new ArrayList<>();
  private final List<Integer> lawPlaces = new ArrayList<>();
  private int unknowns = 1;
  private final List<int[]> asks = new ArrayList<>();
  private final Map<Integer, List<int[]>> madeKnown = new HashMap<>();

  boolean fresh(int things) {
    if (things < 2 || things > 3) return false;
    d = things;
    acts.clear();
    actPlaces.clear();
    laws.clear();
    lawPlaces.clear();
    unknowns = 1;
    asks.clear();
    madeKnown.clear();
    return true;
  }

  int row(int slot, int width, int n) {
    if (slot < 0 || slot > 7 || width < 0 || width > 3 || n > 40) return -2;
    if (n < 0) return -3;
    slots[slot] = new BigInteger[n];
    Arrays.fill(slots[slot], BigInteger.ZERO);
    widths[slot] = width;
    return 0;
  }

  boolean tear(int slot) {
    if (slot < 0 || slot > 7 || slots[slot] == null) return false;
    slots[slot] = null;
    return true;
  }

  int write(int slot, int i, long v) {
    if (slot < 0 || slot > 7) return -2;
    if (slots[slot] == null) return -5;
    if (i < 0 || i >= slots[slot].length) return -6;
    slots[slot][i] = BigInteger.valueOf(v).mod(BigInteger.TWO.pow(8 << widths[slot]));
    return 0;
  }

  int act(int k, int slot) {
    if (slot < 0 || slot > 7 || k < 1 || k > 3) return -2;
    long ofThree = actPlaces.stream().filter(p -> p == 3).count();
    if (acts.size() == 8 || k == 3 && ofThree == 2) return -8;
    if (slots[slot] == null) return -5;
    int[] told = new int[pow(d, k)];
    for (int i = 0; i < told.length; i++) {
      if (i >= slots[slot].length) return -6;
      if (slots[slot][i].compareTo(BigInteger.valueOf(d)) >= 0) return -4;
      told[i] = slots[slot][i].intValue();
    }
    acts.add(told);
    actPlaces.add(k);
    madeKnown.clear();
    return acts.size() - 1;
  }

  int law(int k, int slot) {
    if (slot < 0 || slot > 7 || k < 1 || k > 3) return -2;
    if (laws.size() == 12) return -8;
    if (slots[slot] == null) return -5;
    if (slots[slot].length == 0) return -6;
    if (slots[slot][0].compareTo(BigInteger.valueOf(27)) > 0) return -4;
    int many = slots[slot][0].intValue();
    Set<List<Integer>> rows = new HashSet<>();
    List<Integer> one = new ArrayList<>();
    for (int i = 1; i <= many * k; i++) {
      if (i >= slots[slot].length) return -6;
      if (slots[slot][i].compareTo(BigInteger.valueOf(d)) >= 0) return -4;
      one.add(slots[slot][i].intValue());
      if (one.size() == k) {
        rows.add(one);
        one = new ArrayList<>();
      }
    }
    laws.add(rows);
    lawPlaces.add(k);
    return laws.size() - 1;
  }

  int at(int a, int row) {
    return a < 0 || a >= acts.size() || row < 0 || row >= acts.get(a).length ? NONE : acts.get(a)[row];
  }

  long lawOf(int l) {
    return l < 0 || l >= laws.size() ? -1 : asLong(laws.get(l));
  }

  int keeps(int a, int l) {
    if (a < 0 || a >= acts.size() || l < 0 || l >= laws.size()) return NONE;
    return keep(acts.get(a), actPlaces.get(a), laws.get(l)) ? 1 : 0;
  }

  long closed(int l) {
    if (l < 0 || l >= laws.size()) return -1;
    Set<List<Integer>> rows = new HashSet<>(laws.get(l));
    int before;
    do {
      before = rows.size();
      for (int a = 0; a < acts.size(); a++) rows.addAll(putOn(acts.get(a), actPlaces.get(a), rows));
    } while (rows.size() > before);
    return asLong(rows);
  }

  int laws(int k) {
    if (k < 1 || k > 2) return NONE;
    int found = 0;
    for (int set = 0; set < 1 << pow(d, k); set++) {
      Set<List<Integer>> rows = new HashSet<>();
      for (int r = 0; r < pow(d, k); r++) if ((set >> r & 1) != 0) rows.add(things(r, k));
      if (allKeep(rows)) found++;
    }
    return found;
  }

  int made(int n) {
    if (!canMake(n)) return NONE;
    List<int[]> list = makeAll(n);
    return list == null ? -8 : list.size();
  }

  int madeOf(int n, int i, int what) {
    if (!canMake(n) || what < 0 || what > 1) return NONE;
    List<int[]> list = makeAll(n);
    return list == null || i < 0 || i >= list.size() ? NONE : list.get(i)[what];
  }

  int size(int n, int code) {
    if (!canMake(n)) return NONE;
    List<int[]> list = makeAll(n);
    if (list == null) return -8;
    if (code < 0 || code >= pow(d, pow(d, n))) return NONE;
    for (int[] one : list) if (one[0] == code) return one[1];
    return -7;
  }

  int actsOf(int mask, int n) {
    return canMake(n) ? keepers(mask, n).size() : NONE;
  }

  int actOf(int mask, int n, int i) {
    if (!canMake(n)) return NONE;
    List<Integer> codes = keepers(mask, n);
    return i < 0 || i >= codes.size() ? NONE : codes.get(i);
  }

  int heaps() {
    int found = 0;
    for (int set = 1; set < 1 << d; set++) if (isHeap(set)) found++;
    return found;
  }

  int heap(int mask) {
    if (mask < 1 || mask >= 1 << d) return NONE;
    int least = (1 << d) - 1;
    for (int set = 1; set < 1 << d; set++) if ((set & mask) == mask && isHeap(set)) least &= set;
    return least;
  }

  int pairings() {
    return partings().size();
  }

  int pairing(int i) {
    List<Integer> found = partings();
    return i < 0 || i >= found.size() ? NONE : found.get(i);
  }

  int signs(int a) {
    if (a < 0 || a >= acts.size() || d == 3) return NONE;
    int[] told = acts.get(a);
    int k = actPlaces.get(a);
    boolean rises = true;
    boolean turns = true;
    for (int r = 0; r < told.length; r++) {
      for (int s = 0; s < told.length; s++) {
        if ((r & s) == r && told[r] > told[s]) rises = false;
        if (r + s == told.length - 1 && told[r] == told[s]) turns = false;
      }
    }
    boolean sum = false;
    for (int places = 0; places < 1 << k; places++) {
      for (int more = 0; more < 2; more++) {
        boolean same = true;
        for (int r = 0; r < told.length; r++) same &= told[r] == (Integer.bitCount(r & places) + more) % 2;
        sum |= same;
      }
    }
    return (told[0] == 0 ? 1 : 0) | (told[told.length - 1] == 1 ? 2 : 0) | (rises ? 4 : 0) | (turns ? 8 : 0) | (sum ? 16 : 0);
  }

  int whole() {
    if (d == 3) return NONE;
    for (int bit = 0; bit < 5; bit++) {
      boolean oneHasNot = false;
      for (int a = 0; a < acts.size(); a++) oneHasNot |= (signs(a) >> bit & 1) == 0;
      if (!oneHasNot) return 0;
    }
    return 1;
  }

  boolean riddle(int u) {
    if (u < 1 || u > 8) return false;
    unknowns = u;
    asks.clear();
    return true;
  }

  int ask(int l, int x, int y, int z) {
    if (l < 0 || l >= laws.size()) return -2;
    int[] all = {x, y, z};
    int[] ask = new int[1 + lawPlaces.get(l)];
    ask[0] = l;
    for (int p = 1; p < ask.length; p++) {
      ask[p] = all[p - 1];
      if (ask[p] < 0 || ask[p] >= unknowns) return -2;
    }
    if (asks.size() == 30) return -8;
    asks.add(ask);
    return asks.size() - 1;
  }

  int narrowed(int u) {
    if (u < 0 || u >= unknowns) return NONE;
    int[] left = new int[unknowns];
    Arrays.fill(left, (1 << d) - 1);
    boolean changed;
    do {
      changed = false;
      for (int[] ask : asks) {
        for (int p = 1; p < ask.length; p++) {
          for (int thing = 0; thing < d; thing++) {
            if ((left[ask[p]] >> thing & 1) != 0 && !isBacked(ask, p - 1, thing, left)) {
              left[ask[p]] &= ~(1 << thing);
              changed = true;
            }
          }
        }
      }
    } while (changed);
    return left[u];
  }

  int answers() {
    return allAnswers().size();
  }

  int answer(int i) {
    List<Integer> all = allAnswers();
    return i < 0 || i >= all.size() ? NONE : all.get(i);
  }

  long quick(int kind) {
    if (kind < 0 || kind > 2) return NONE;
    long least = -7;
    for (int[] told : ofKind(kind)) {
      boolean all = true;
      for (int[] ask : asks) all = all && keep(told, kind == 0 ? 2 : 3, laws.get(ask[0]));
      long code = 0;
      for (int r = told.length - 1; r >= 0; r--) code = code * d + told[r];
      if (all && (least < 0 || code < least)) least = code;
    }
    return least;
  }

  int count(int what) {
    int filled = 0;
    for (BigInteger[] slot : slots) if (slot != null) filled++;
    int[] all = {d, acts.size(), laws.size(), unknowns, asks.size(), filled};
    return what < 0 || what > 5 ? NONE : all[what];
  }

  private static int pow(int base, int n) {
    return n == 0 ? 1 : base * pow(base, n - 1);
  }

  private List<Integer> things(int number, int k) {
    List<Integer> row = new ArrayList<>();
    for (int p = k - 1; p >= 0; p--) row.add(number / pow(d, p) % d);
    return row;
  }

  private int number(List<Integer> row) {
    int number = 0;
    for (int thing : row) number = number * d + thing;
    return number;
  }

  private long asLong(Set<List<Integer>> rows) {
    long set = 0;
    for (List<Integer> row : rows) set |= 1L << number(row);
    return set;
  }

  /** All rows that come if an act is put on rows, thing by thing. */
  private Set<List<Integer>> putOn(int[] told, int m, Set<List<Integer>> law) {
    List<List<Integer>> rows = new ArrayList<>(law);
    Set<List<Integer>> out = new HashSet<>();
    if (rows.isEmpty()) return out;
    for (int pick = 0; pick < pow(rows.size(), m); pick++) {
      List<Integer> made = new ArrayList<>();
      for (int j = 0; j < rows.get(0).size(); j++) {
        int number = 0;
        int rest = pick;
        for (int p = 0; p < m; p++) {
          number = number * d + rows.get(rest % rows.size()).get(j);
          rest /= rows.size();
        }
        made.add(told[number]);
      }
      out.add(made);
    }
    return out;
  }

  private boolean keep(int[] told, int m, Set<List<Integer>> law) {
    return law.containsAll(putOn(told, m, law));
  }

  private boolean allKeep(Set<List<Integer>> law) {
    for (int a = 0; a < acts.size(); a++) if (!keep(acts.get(a), actPlaces.get(a), law)) return false;
    return true;
  }

  private boolean canMake(int n) {
    return n >= 1 && n <= 5 - d;
  }

  /** Each made one as its code and size in their order; null if they are too many. */
  private List<int[]> makeAll(int n) {
    if (!madeKnown.containsKey(n)) madeKnown.put(n, makeAnew(n));
    return madeKnown.get(n);
  }

  private List<int[]> makeAnew(int n) {
    int rows = pow(d, n);
    Map<Integer, Integer> sizes = new HashMap<>();
    for (int p = 0; p < n; p++) {
      int code = 0;
      for (int r = rows - 1; r >= 0; r--) code = code * d + things(r, n).get(p);
      sizes.put(code, 0);
    }
    boolean changed;
    do {
      changed = false;
      for (int a = 0; a < acts.size(); a++) changed |= makeMore(sizes, rows, acts.get(a), actPlaces.get(a));
      if (sizes.size() > 256) return null;
    } while (changed);
    List<int[]> list = new ArrayList<>();
    for (Map.Entry<Integer, Integer> one : sizes.entrySet()) list.add(new int[] {one.getKey(), one.getValue()});
    list.sort((x, y) -> x[1] != y[1] ? Integer.compare(x[1], y[1]) : Integer.compare(x[0], y[0]));
    return list;
  }

  private boolean makeMore(Map<Integer, Integer> sizes, int rows, int[] told, int m) {
    List<Integer> codes = new ArrayList<>(sizes.keySet());
    int n = codes.size();
    int[] size = new int[n];
    int[][] tells = new int[n][rows];
    for (int i = 0; i < n; i++) {
      size[i] = sizes.get(codes.get(i));
      for (int r = 0; r < rows; r++) tells[i][r] = codes.get(i) / pow(d, r) % d;
    }
    boolean changed = false;
    for (int x = 0; x < (m > 2 ? n : 1); x++) {
      for (int y = 0; y < (m > 1 ? n : 1); y++) {
        for (int z = 0; z < n; z++) {
          int together = 1 + size[z] + (m > 1 ? size[y] : 0) + (m > 2 ? size[x] : 0);
          int code = 0;
          for (int r = rows - 1; r >= 0; r--) {
            int number = m == 1 ? tells[z][r] : m == 2 ? tells[y][r] * d + tells[z][r]
              : (tells[x][r] * d + tells[y][r]) * d + tells[z][r];
            code = code * d + told[number];
          }
          together = Math.min(together, 1000000);
          Integer known = sizes.get(code);
          if (known == null || known > together) {
            sizes.put(code, together);
            changed = true;
            if (sizes.size() > 256) return true;
          }
        }
      }
    }
    return changed;
  }

  private List<Integer> keepers(int mask, int n) {
    List<Integer> found = new ArrayList<>();
    int rows = pow(d, n);
    for (int code = 0; code < pow(d, rows); code++) {
      int[] told = new int[rows];
      for (int r = 0; r < rows; r++) told[r] = code / pow(d, r) % d;
      boolean all = true;
      for (int l = 0; l < laws.size(); l++) if (all && (mask >> l & 1) != 0) all = keep(told, n, laws.get(l));
      if (all) found.add(code);
    }
    return found;
  }

  private boolean isHeap(int set) {
    Set<List<Integer>> law = new HashSet<>();
    for (int thing = 0; thing < d; thing++) if ((set >> thing & 1) != 0) law.add(List.of(thing));
    return allKeep(law);
  }

  private List<Integer> partings() {
    TreeSet<Integer> found = new TreeSet<>();
    for (int pick = 0; pick < pow(d, d); pick++) {
      List<Integer> part = things(pick, d);
      boolean fine = true;
      for (int t = 0; t < d; t++) fine &= part.get(t) == part.indexOf(part.get(t));
      for (int a = 0; fine && a < acts.size(); a++) fine = parted(acts.get(a), actPlaces.get(a), part);
      int number = 0;
      for (int t = d - 1; t >= 0; t--) number = number * 4 + part.get(t);
      if (fine) found.add(number);
    }
    return new ArrayList<>(found);
  }

  private boolean parted(int[] told, int k, List<Integer> part) {
    for (int r = 0; r < told.length; r++) {
      for (int s = 0; s < told.length; s++) {
        boolean same = true;
        for (int p = 0; p < k; p++) same &= part.get(things(r, k).get(p)).equals(part.get(things(s, k).get(p)));
        if (same && !part.get(told[r]).equals(part.get(told[s]))) return false;
      }
    }
    return true;
  }

  private boolean isBacked(int[] ask, int place, int thing, int[] left) {
    for (List<Integer> row : laws.get(ask[0])) {
      boolean fine = row.get(place) == thing;
      for (int p = 0; p < row.size(); p++) {
        fine &= (left[ask[p + 1]] >> row.get(p) & 1) != 0;
        for (int q = 0; q < p; q++) fine &= ask[p + 1] != ask[q + 1] || row.get(p).equals(row.get(q));
      }
      if (fine) return true;
    }
    return false;
  }

  private List<Integer> allAnswers() {
    List<Integer> found = new ArrayList<>();
    for (int number = 0; number < pow(d, unknowns); number++) {
      List<Integer> given = things(number, unknowns);
      boolean fine = true;
      for (int[] ask : asks) {
        List<Integer> row = new ArrayList<>();
        for (int p = 1; p < ask.length; p++) row.add(given.get(ask[p]));
        fine = fine && laws.get(ask[0]).contains(row);
      }
      if (fine) found.add(number);
    }
    return found;
  }

  private List<int[]> ofKind(int kind) {
    List<int[]> found = new ArrayList<>();
    if (kind == 0) {
      for (int code = 0; code < pow(d, d * d); code++) {
        int[] told = new int[d * d];
        for (int r = 0; r < told.length; r++) told[r] = code / pow(d, r) % d;
        if (isHalf(told)) found.add(told);
      }
    } else if (kind == 1) {
      addMosts(found, new int[d * d * d], 0);
    } else {
      int[] told = new int[d * d * d];
      for (int r = 0; r < told.length; r++) {
        List<Integer> row = things(r, 3);
        told[r] = (row.get(0) - row.get(1) + row.get(2) + d) % d;
      }
      found.add(told);
    }
    return found;
  }

  private boolean isHalf(int[] h) {
    for (int a = 0; a < d; a++) {
      if (h[a * d + a] != a) return false;
      for (int b = 0; b < d; b++) {
        if (h[a * d + b] != h[b * d + a]) return false;
        for (int c = 0; c < d; c++) if (h[h[a * d + b] * d + c] != h[a * d + h[b * d + c]]) return false;
      }
    }
    return true;
  }

  private void addMosts(List<int[]> found, int[] told, int r) {
    if (r == told.length) {
      found.add(told.clone());
      return;
    }
    List<Integer> row = things(r, 3);
    for (int thing = 0; thing < d; thing++) {
      boolean fine = true;
      for (int other : row) fine &= row.stream().filter(t -> t == other).count() < 2 || thing == other;
      told[r] = thing;
      if (fine) addMosts(found, told, r + 1);
    }
  }
}
