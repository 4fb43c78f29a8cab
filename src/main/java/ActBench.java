import java.util.Arrays;

/**
 * A bench over a set of two or three things: the acts that told acts make, laws that acts keep,
 * heaps and pairings that they leave, and riddles whose asks are laws.
 */
public final class ActBench {
    public static final int NONE = -1;

    private static final int NO_SUCH = -2;
    private static final int BELOW = -3;
    private static final int NO_THING = -4;
    private static final int NOTHING = -5;
    private static final int NO_NUMBER = -6;
    private static final int NOT_SO = -7;
    private static final int TOO_MANY = -8;

    private static final int MOST_PLACES = 3;
    private static final int MOST_ROWS = 27;
    private static final int MOST_ACTS = 8;
    private static final int MOST_ACTS_OF_THREE = 2;
    private static final int MOST_LAWS = 12;
    private static final int MOST_CODES = 19683;
    private static final int MOST_ANSWERS = 6561;

    private static final int HALF = 0;
    private static final int MOST = 1;
    private static final int SUM = 2;

    private static final int[] PARTINGS_OF_TWO = {0, 4};
    private static final int[] PARTINGS_OF_THREE = {0, 4, 20, 32, 36};

    private final Base base = new Base();
    private final Slots slots = new Slots();
    private final Act[] acts = new Act[MOST_ACTS];
    private final Law[] laws = new Law[MOST_LAWS];
    private final Made[] made = new Made[MOST_PLACES];
    private final Maker maker = new Maker();
    private final Riddle riddle = new Riddle();
    private final Net net = new Net();
    private final Form form = new Form();
    private final Found keepers = new Found(MOST_CODES);
    private final Found solved = new Found(MOST_ANSWERS);
    private final Law spare = new Law();
    private final Line line = new Line();
    private final int[] told = new int[MOST_ROWS];
    private int actCount;
    private int lawCount;
    private int keepersMask;
    private int keepersPlaces;
    private boolean isSolved;

    public ActBench() {
        for (int a = 0; a < MOST_ACTS; a++) {
            acts[a] = new Act();
        }
        for (int l = 0; l < MOST_LAWS; l++) {
            laws[l] = new Law();
        }
        for (int n = 0; n < MOST_PLACES; n++) {
            made[n] = new Made();
        }
        startOver(2);
    }

    public boolean fresh(int d) {
        if (d != 2 && d != 3) {
            return false;
        }
        startOver(d);
        return true;
    }

    public int row(int slot, int width, int n) {
        if (!slots.isSlot(slot) || width < 0 || width > 3 || n > Slots.LONGEST) {
            return NO_SUCH;
        }
        if (n < 0) {
            return BELOW;
        }
        slots.lay(slot, width, n);
        return 0;
    }

    public boolean tear(int slot) {
        if (!slots.hasRow(slot)) {
            return false;
        }
        slots.empty(slot);
        return true;
    }

    public int write(int slot, int i, long v) {
        if (!slots.isSlot(slot)) {
            return NO_SUCH;
        }
        if (!slots.hasRow(slot)) {
            return NOTHING;
        }
        return slots.put(slot, i, v) ? 0 : NO_NUMBER;
    }

    public int act(int k, int slot) {
        if (!slots.isSlot(slot) || !isPlaceCount(k)) {
            return NO_SUCH;
        }
        if (actCount >= MOST_ACTS || (k == 3 && actsOfThree() >= MOST_ACTS_OF_THREE)) {
            return TOO_MANY;
        }
        if (!slots.hasRow(slot)) {
            return NOTHING;
        }
        int rows = base.power(k);
        for (int i = 0; i < rows && i < MOST_ROWS; i++) {
            int thing = slots.read(slot, i, base.d - 1);
            if (thing < 0) {
                return thing;
            }
            told[i] = thing;
        }
        acts[actCount].take(k, told, base);
        forgetMade();
        return actCount++;
    }

    public int law(int k, int slot) {
        if (!slots.isSlot(slot) || !isPlaceCount(k)) {
            return NO_SUCH;
        }
        if (lawCount >= MOST_LAWS) {
            return TOO_MANY;
        }
        if (!slots.hasRow(slot)) {
            return NOTHING;
        }
        int set = readLaw(k, slot);
        if (set < 0) {
            return set;
        }
        laws[lawCount].take(k, set, base);
        return lawCount++;
    }

    public int at(int a, int row) {
        if (!isAct(a) || row < 0 || row >= acts[a].rows) {
            return NONE;
        }
        return acts[a].tells[row];
    }

    public long lawOf(int l) {
        return isLaw(l) ? laws[l].set : NONE;
    }

    public int keeps(int a, int l) {
        if (!isAct(a) || !isLaw(l)) {
            return NONE;
        }
        return laws[l].isKeptBy(acts[a], base, line) ? 1 : 0;
    }

    public long closed(int l) {
        if (!isLaw(l)) {
            return NONE;
        }
        spare.take(laws[l].places, laws[l].set, base);
        boolean grew = true;
        for (int round = 0; round <= MOST_ROWS && grew; round++) {
            grew = false;
            for (int a = 0; a < actCount; a++) {
                grew |= spare.growsBy(acts[a], base, line);
            }
        }
        return spare.narrowSet(base);
    }

    public int laws(int k) {
        if (k != 1 && k != 2) {
            return NONE;
        }
        int sets = 1 << base.power(k);
        int kept = 0;
        for (int set = 0; set < sets; set++) {
            spare.take(k, set, base);
            if (allActsKeepSpare()) {
                kept++;
            }
        }
        return kept;
    }

    public int made(int n) {
        if (!base.isMadeOf(n)) {
            return NONE;
        }
        Made list = madeList(n);
        return list.isNone ? TOO_MANY : list.count;
    }

    public int madeOf(int n, int i, int what) {
        if (!base.isMadeOf(n) || (what != 0 && what != 1)) {
            return NONE;
        }
        Made list = madeList(n);
        if (i < 0 || i >= list.count) {
            return NONE;
        }
        return what == 0 ? list.codes[i] : list.sizes[i];
    }

    public int size(int n, int code) {
        if (!base.isMadeOf(n)) {
            return NONE;
        }
        Made list = madeList(n);
        if (list.isNone) {
            return TOO_MANY;
        }
        if (code < 0 || code >= base.codes(n)) {
            return NONE;
        }
        return list.sizeOf(code);
    }

    public int actsOf(int mask, int n) {
        if (!base.isMadeOf(n)) {
            return NONE;
        }
        findKeepers(mask, n);
        return keepers.count;
    }

    public int actOf(int mask, int n, int i) {
        if (!base.isMadeOf(n)) {
            return NONE;
        }
        findKeepers(mask, n);
        return keepers.nth(i);
    }

    public int heaps() {
        int found = 0;
        for (int set = 1; set <= base.allThings(); set++) {
            if (isHeap(set)) {
                found++;
            }
        }
        return found;
    }

    public int heap(int mask) {
        if (mask < 1 || mask > base.allThings()) {
            return NONE;
        }
        return leastHeap(mask);
    }

    public int pairings() {
        int[] partings = partings();
        int found = 0;
        for (int p = 0; p < partings.length; p++) {
            if (allActsKeepParts(partings[p])) {
                found++;
            }
        }
        return found;
    }

    public int pairing(int i) {
        int[] partings = partings();
        int found = 0;
        for (int p = 0; p < partings.length; p++) {
            if (allActsKeepParts(partings[p])) {
                if (found == i) {
                    return partings[p];
                }
                found++;
            }
        }
        return NONE;
    }

    public int signs(int a) {
        if (!isAct(a) || base.d == 3) {
            return NONE;
        }
        return acts[a].signBits();
    }

    public int whole() {
        if (base.d == 3) {
            return NONE;
        }
        int shared = Act.ALL_SIGNS;
        for (int a = 0; a < actCount; a++) {
            shared &= acts[a].signBits();
        }
        return shared == 0 ? 1 : 0;
    }

    public boolean riddle(int u) {
        if (u < 1 || u > Riddle.MOST_UNKNOWNS) {
            return false;
        }
        riddle.start(u);
        isSolved = false;
        return true;
    }

    public int ask(int l, int x, int y, int z) {
        if (!isLaw(l)) {
            return NO_SUCH;
        }
        int places = laws[l].places;
        // A law is held with its last place said again up to three, and so is an ask.
        int second = places > 1 ? y : x;
        int third = places > 2 ? z : second;
        if (!riddle.isUnknown(x) || !riddle.isUnknown(second) || !riddle.isUnknown(third)) {
            return NO_SUCH;
        }
        if (riddle.count >= Riddle.MOST_ASKS) {
            return TOO_MANY;
        }
        isSolved = false;
        return riddle.add(l, x, second, third);
    }

    public int narrowed(int u) {
        if (!riddle.isUnknown(u)) {
            return NONE;
        }
        riddle.narrow(laws, base);
        return riddle.domains[u];
    }

    public int answers() {
        solve();
        return solved.count;
    }

    public int answer(int i) {
        solve();
        return solved.nth(i);
    }

    public long quick(int kind) {
        if (kind == HALF) {
            form.beHalf(base);
        } else if (kind == MOST) {
            form.beMost(base);
        } else if (kind == SUM) {
            form.beSum(base);
        } else {
            return NONE;
        }
        net.start(base.d, form.variables);
        restrainForm(riddle.lawMask());
        net.order();
        return net.findFirst(form) ? form.code(net.values, base) : NOT_SO;
    }

    public int count(int what) {
        switch (what) {
            case 0:
                return base.d;
            case 1:
                return actCount;
            case 2:
                return lawCount;
            case 3:
                return riddle.unknowns;
            case 4:
                return riddle.count;
            case 5:
                return slots.filled();
            default:
                return NONE;
        }
    }

    private void startOver(int d) {
        base.set(d);
        line.weigh(d * d, d, 1);
        actCount = 0;
        lawCount = 0;
        forgetMade();
        keepersPlaces = 0;
        riddle.start(1);
        isSolved = false;
    }

    private void forgetMade() {
        for (int n = 0; n < MOST_PLACES; n++) {
            made[n].isKnown = false;
        }
    }

    private boolean isPlaceCount(int k) {
        return k >= 1 && k <= MOST_PLACES;
    }

    private boolean isAct(int a) {
        return a >= 0 && a < actCount;
    }

    private boolean isLaw(int l) {
        return l >= 0 && l < lawCount;
    }

    private int actsOfThree() {
        int found = 0;
        for (int a = 0; a < actCount; a++) {
            if (acts[a].places == 3) {
                found++;
            }
        }
        return found;
    }

    /** The set of rows that a slot tells, or the refusal. */
    private int readLaw(int k, int slot) {
        int rows = slots.read(slot, 0, MOST_ROWS);
        if (rows < 0) {
            return rows;
        }
        int set = 0;
        int next = 1;
        for (int r = 0; r < rows; r++) {
            int number = 0;
            for (int p = 0; p < k; p++) {
                int thing = slots.read(slot, next, base.d - 1);
                if (thing < 0) {
                    return thing;
                }
                number = number * base.d + thing;
                next++;
            }
            set |= 1 << number;
        }
        return set;
    }

    private boolean allActsKeepSpare() {
        for (int a = 0; a < actCount; a++) {
            if (!spare.isKeptBy(acts[a], base, line)) {
                return false;
            }
        }
        return true;
    }

    private Made madeList(int n) {
        Made list = made[n - 1];
        if (!list.isKnown) {
            maker.make(n, base, acts, actCount, mostMade(n), list);
        }
        return list;
    }

    /** A bound: what is made tells for a row only things of the least heap around the row. */
    private int mostMade(int n) {
        int rows = base.power(n);
        int most = 1;
        for (int row = 0; row < rows; row++) {
            most *= Integer.bitCount(leastHeap(base.thingsOf(row, n)));
        }
        return most;
    }

    private void findKeepers(int mask, int n) {
        int known = mask & ((1 << lawCount) - 1);
        if (keepersPlaces == n && keepersMask == known) {
            return;
        }
        form.beFree(n, base);
        net.start(base.d, form.variables);
        restrainForm(known);
        net.order();
        net.findAll(keepers);
        keepersPlaces = n;
        keepersMask = known;
    }

    private void restrainForm(int mask) {
        for (int l = 0; l < lawCount; l++) {
            if ((mask >> l & 1) != 0) {
                net.restrain(form, laws[l], base);
            }
        }
    }

    private void solve() {
        if (isSolved) {
            return;
        }
        net.start(base.d, riddle.unknowns);
        for (int i = 0; i < riddle.count; i++) {
            net.limit(riddle.first[i], riddle.second[i], riddle.third[i], laws[riddle.lawAt[i]].wide);
        }
        net.order();
        net.findAll(solved);
        isSolved = true;
    }

    private boolean isHeap(int set) {
        for (int a = 0; a < actCount; a++) {
            if (!acts[a].staysIn(set, base)) {
                return false;
            }
        }
        return true;
    }

    private int leastHeap(int mask) {
        int all = base.allThings();
        for (int set = mask; set < all; set++) {
            // The least heap lies in all others around the mask, so it comes first by number too.
            if ((set & mask) == mask && isHeap(set)) {
                return set;
            }
        }
        return all;
    }

    private int[] partings() {
        return base.d == 2 ? PARTINGS_OF_TWO : PARTINGS_OF_THREE;
    }

    private boolean allActsKeepParts(int parts) {
        for (int a = 0; a < actCount; a++) {
            if (!acts[a].keepsParts(parts, base)) {
                return false;
            }
        }
        return true;
    }

    /**
     * How many things there are, and the things of each row of three. A row of fewer things has
     * the same number as the row of three that has zeros ahead of them.
     */
    private static final class Base {
        int d = 2;
        int wideRows = 8;
        final int[] first = new int[MOST_ROWS];
        final int[] second = new int[MOST_ROWS];
        final int[] third = new int[MOST_ROWS];

        void set(int things) {
            d = things;
            wideRows = d * d * d;
            int number = 0;
            for (int a = 0; a < d; a++) {
                for (int b = 0; b < d; b++) {
                    for (int c = 0; c < d; c++) {
                        first[number] = a;
                        second[number] = b;
                        third[number] = c;
                        number++;
                    }
                }
            }
        }

        int power(int n) {
            int power = 1;
            for (int i = 0; i < n; i++) {
                power *= d;
            }
            return power;
        }

        boolean isMadeOf(int n) {
            return n >= 1 && n <= (d == 2 ? 3 : 2);
        }

        int codes(int n) {
            return power(power(n));
        }

        int allThings() {
            return (1 << d) - 1;
        }

        int thingsOf(int row, int places) {
            int set = 1 << third[row];
            if (places > 1) {
                set |= 1 << second[row];
            }
            if (places > 2) {
                set |= 1 << first[row];
            }
            return set;
        }

        /** The row of three things that says the last thing of a shorter row again. */
        int widen(int number, int places) {
            int wide = number;
            for (int p = places; p < MOST_PLACES; p++) {
                wide = wide * d + third[number];
            }
            return wide;
        }

        /** The row of three digits of a code from a told one on, counted from the lowest. */
        int threeOf(int code, int from) {
            int rest = code;
            int three = 0;
            for (int digit = 0; digit < from + 3; digit++) {
                // The divisors stand in the text, so that none can be 0.
                int thing = d == 2 ? rest % 2 : rest % 3;
                rest = d == 2 ? rest / 2 : rest / 3;
                if (digit >= from) {
                    three = three * d + thing;
                }
            }
            return three;
        }
    }

    /** Rows of numbers. */
    private static final class Slots {
        static final int LONGEST = 40;
        private static final int COUNT = 8;
        private final long[] numbers = new long[COUNT * LONGEST];
        private final int[] widths = new int[COUNT];
        private final int[] lengths = new int[COUNT];

        Slots() {
            Arrays.fill(lengths, NONE);
        }

        boolean isSlot(int slot) {
            return slot >= 0 && slot < COUNT;
        }

        boolean hasRow(int slot) {
            return isSlot(slot) && lengths[slot] >= 0;
        }

        void lay(int slot, int width, int n) {
            widths[slot] = width;
            lengths[slot] = n;
            for (int i = 0; i < LONGEST; i++) {
                numbers[slot * LONGEST + i] = 0;
            }
        }

        void empty(int slot) {
            lengths[slot] = NONE;
        }

        boolean put(int slot, int i, long v) {
            if (i < 0 || i >= lengths[slot]) {
                return false;
            }
            numbers[slot * LONGEST + i] = cut(v, widths[slot]);
            return true;
        }

        /** Number i of the row if it is 0 to most, or the refusal. */
        int read(int slot, int i, int most) {
            if (i < 0 || i >= lengths[slot]) {
                return NO_NUMBER;
            }
            long number = numbers[slot * LONGEST + i];
            if (number < 0 || number > most) {
                return NO_THING;
            }
            return (int) number;
        }

        int filled() {
            int found = 0;
            for (int slot = 0; slot < COUNT; slot++) {
                if (lengths[slot] >= 0) {
                    found++;
                }
            }
            return found;
        }

        private long cut(long v, int width) {
            switch (width) {
                case 0:
                    return (byte) v;
                case 1:
                    return (short) v;
                case 2:
                    return (int) v;
                default:
                    return v;
            }
        }
    }

    /** An act, held as one of three places that does not look at those ahead of its own. */
    private static final class Act {
        static final int ALL_SIGNS = 31;
        int places;
        int rows;
        final int[] tells = new int[MOST_ROWS];
        /** The same with the last two places changed, so that either can be the one that varies. */
        final int[] turned = new int[MOST_ROWS];

        void take(int k, int[] told, Base base) {
            places = k;
            rows = base.power(k);
            int own = 0;
            for (int row = 0; row < base.wideRows; row++) {
                tells[row] = told[own];
                own = own + 1 < rows ? own + 1 : 0;
            }
            for (int row = 0; row < base.wideRows; row++) {
                int other = (base.first[row] * base.d + base.third[row]) * base.d + base.second[row];
                turned[row] = tells[other];
            }
        }

        boolean staysIn(int set, Base base) {
            for (int row = 0; row < rows; row++) {
                int things = base.thingsOf(row, places);
                if ((things & set) == things && (set >> tells[row] & 1) == 0) {
                    return false;
                }
            }
            return true;
        }

        /** It is enough to hold each row against the one that has the least things of its parts. */
        boolean keepsParts(int parts, Base base) {
            for (int row = 0; row < rows; row++) {
                int least = part(parts, base.first[row]) * base.d + part(parts, base.second[row]);
                least = least * base.d + part(parts, base.third[row]);
                if (part(parts, tells[row]) != part(parts, tells[least])) {
                    return false;
                }
            }
            return true;
        }

        int signBits() {
            int bits = 0;
            if (tells[0] == 0) {
                bits |= 1;
            }
            if (tells[rows - 1] == 1) {
                bits |= 2;
            }
            if (neverFalls()) {
                bits |= 4;
            }
            if (turnsOver()) {
                bits |= 8;
            }
            if (isSum()) {
                bits |= 16;
            }
            return bits;
        }

        private static int part(int parts, int thing) {
            return parts >> (2 * thing) & 3;
        }

        private boolean neverFalls() {
            for (int row = 0; row < rows; row++) {
                for (int place = 1; place < rows; place *= 2) {
                    if (tells[row] > tells[row | place]) {
                        return false;
                    }
                }
            }
            return true;
        }

        private boolean turnsOver() {
            for (int row = 0; row < rows; row++) {
                if (tells[row] == tells[rows - 1 - row]) {
                    return false;
                }
            }
            return true;
        }

        /** What one 1 alone changes tells whether its place is among the told ones. */
        private boolean isSum() {
            for (int row = 0; row < rows; row++) {
                int sum = tells[0];
                for (int place = 1; place < rows; place *= 2) {
                    if ((row & place) != 0) {
                        sum ^= tells[place] ^ tells[0];
                    }
                }
                if (sum != tells[row]) {
                    return false;
                }
            }
            return true;
        }
    }

    /**
     * A law, held as rows of three things: of fewer places the last thing is said again. An act
     * keeps the one just as it keeps the other.
     */
    private static final class Law {
        int places;
        int set;
        int wide;
        int count;
        final int[] rows = new int[MOST_ROWS];

        void take(int k, int rowSet, Base base) {
            places = k;
            set = rowSet;
            wide = 0;
            count = 0;
            int all = base.power(k);
            for (int number = 0; number < all; number++) {
                if ((rowSet >> number & 1) != 0) {
                    addWide(base.widen(number, k));
                }
            }
        }

        boolean hasAllRows(Base base) {
            return count == base.power(places);
        }

        boolean isKeptBy(Act act, Base base, Line line) {
            int firsts = tried(act.places, 3);
            int seconds = tried(act.places, 2);
            for (int i = 0; i < firsts; i++) {
                for (int j = 0; j < seconds; j++) {
                    line.fill(base, act.tells, rows[i], rows[j]);
                    for (int k = 0; k < count; k++) {
                        if ((wide >> line.results[rows[k]] & 1) == 0) {
                            return false;
                        }
                    }
                }
            }
            return true;
        }

        /** Adds what the act tells for the rows that are here now; whether there was any. */
        boolean growsBy(Act act, Base base, Line line) {
            int known = count;
            int firsts = tried(act.places, 3);
            int seconds = tried(act.places, 2);
            for (int i = 0; i < firsts; i++) {
                for (int j = 0; j < seconds; j++) {
                    line.fill(base, act.tells, rows[i], rows[j]);
                    for (int k = 0; k < known; k++) {
                        addWide(line.results[rows[k]]);
                    }
                }
            }
            return count > known;
        }

        int narrowSet(Base base) {
            int narrow = 0;
            int all = base.power(places);
            for (int number = 0; number < all; number++) {
                if ((wide >> base.widen(number, places) & 1) != 0) {
                    narrow |= 1 << number;
                }
            }
            return narrow;
        }

        /** How many rows to try at a place that only acts with so many places look at. */
        int tried(int actPlaces, int needed) {
            return actPlaces >= needed ? count : Math.min(count, 1);
        }

        private void addWide(int row) {
            if (count < MOST_ROWS && (wide >> row & 1) == 0) {
                rows[count] = row;
                count++;
                wide |= 1 << row;
            }
        }
    }

    /**
     * What an act of three places makes, thing by thing, of two told rows of three things and each
     * third one, as a sum of weights.
     */
    private static final class Line {
        final int[] results = new int[MOST_ROWS];
        private int firstWeight;
        private int secondWeight;
        private int thirdWeight;

        void weigh(int first, int second, int third) {
            firstWeight = first;
            secondWeight = second;
            thirdWeight = third;
            Arrays.fill(results, 0);
        }

        void fill(Base base, int[] table, int i, int j) {
            if (firstWeight == 0) {
                // Nothing of this part counts, and the results are 0 already.
                return;
            }
            int d = base.d;
            int first = (base.first[i] * d + base.first[j]) * d;
            int second = (base.second[i] * d + base.second[j]) * d;
            int third = (base.third[i] * d + base.third[j]) * d;
            int at = 0;
            for (int a = 0; a < d; a++) {
                int one = table[first + a] * firstWeight;
                for (int b = 0; b < d; b++) {
                    int two = one + table[second + b] * secondWeight;
                    for (int c = 0; c < d; c++) {
                        results[at] = two + table[third + c] * thirdWeight;
                        at++;
                    }
                }
            }
        }
    }

    /** The made acts of one number of places, as far as they are known. */
    private static final class Made {
        boolean isKnown;
        boolean isNone;
        int count;
        final int[] codes = new int[Maker.LIMIT];
        final int[] sizes = new int[Maker.LIMIT];

        int sizeOf(int code) {
            for (int i = 0; i < count; i++) {
                if (codes[i] == code) {
                    return sizes[i];
                }
            }
            return NOT_SO;
        }
    }

    /**
     * Finds made acts from the least size on. What an act tells for its rows is held in three
     * parts, each a row of three things, so that a line answers three of its rows at once.
     */
    private static final class Maker {
        static final int LIMIT = 256;
        private static final int MOST_SIZE = 1000000;
        /** One more than an act and three made ones of the most size come to. */
        private static final int NO_CEILING = 3 * MOST_SIZE + 2;
        private Base base = new Base();
        private final int[] codes = new int[LIMIT + 1];
        private final int[] sizes = new int[LIMIT + 1];
        private final int[] low = new int[LIMIT + 1];
        private final int[] middle = new int[LIMIT + 1];
        private final int[] high = new int[LIMIT + 1];
        private final Line lowLine = new Line();
        private final Line middleLine = new Line();
        private final Line highLine = new Line();
        /** One more than the place of a code in the lists, 0 if it is not there. */
        private int[] placeOf = new int[LIMIT];
        private int count;
        /** A size from which on nothing new or smaller can come. */
        private int ceiling;

        /** There can be at most so many as most tells: when all are there, only sizes can change. */
        void make(int n, Base things, Act[] acts, int actCount, int most, Made out) {
            base = things;
            begin(n);
            for (int e = 0; e < count && count <= LIMIT; e++) {
                bringLeast(e);
                ceiling = count == most ? largestSize(e) : NO_CEILING;
                for (int a = 0; a < actCount && sizes[e] + 1 < ceiling; a++) {
                    putOn(acts[a], e);
                }
            }
            end(out);
        }

        private void begin(int n) {
            int rows = base.power(n);
            if (placeOf.length < base.codes(n)) {
                placeOf = new int[MOST_CODES];
            }
            weighFrom(lowLine, 0, rows);
            weighFrom(middleLine, 3, rows);
            weighFrom(highLine, 6, rows);
            count = 0;
            add(codeOf(base.third, rows), 0);
            if (n > 1) {
                add(codeOf(base.second, rows), 0);
            }
            if (n > 2) {
                add(codeOf(base.first, rows), 0);
            }
        }

        private void weighFrom(Line line, int row, int rows) {
            line.weigh(weight(row, rows), weight(row + 1, rows), weight(row + 2, rows));
        }

        private int weight(int row, int rows) {
            return row < rows ? base.power(row) : 0;
        }

        private int codeOf(int[] told, int rows) {
            int code = 0;
            for (int row = rows - 1; row >= 0; row--) {
                code = code * base.d + told[row];
            }
            return code;
        }

        /** Puts the act on all that stand up to e, with e among them. */
        private void putOn(Act act, int e) {
            int size = 1 + sizes[e];
            if (act.places == 1) {
                sweep(act.tells, e, e, e, e, 1);
            } else if (act.places == 2) {
                sweep(act.tells, e, e, 0, e, size);
                sweep(act.turned, e, e, 0, e - 1, size);
            } else {
                for (int y = 0; y <= e; y++) {
                    sweep(act.tells, e, y, 0, e, size + sizes[y]);
                }
                for (int x = 0; x < e; x++) {
                    sweep(act.tells, x, e, 0, e, size + sizes[x]);
                    sweep(act.turned, x, e, 0, e - 1, size + sizes[x]);
                }
            }
        }

        /** Meets what comes of x, y and each from .. to; size counts all but the last. */
        private void sweep(int[] table, int x, int y, int from, int to, int size) {
            if (from > to || count > LIMIT || size + sizes[from] >= ceiling) {
                return;
            }
            lowLine.fill(base, table, low[x], low[y]);
            middleLine.fill(base, table, middle[x], middle[y]);
            highLine.fill(base, table, high[x], high[y]);
            for (int z = from; z <= to; z++) {
                int together = size + sizes[z];
                if (together >= ceiling) {
                    return;
                }
                int code = lowLine.results[low[z]] + middleLine.results[middle[z]] + highLine.results[high[z]];
                int place = placeOf[code] - 1;
                if (place < 0) {
                    add(code, Math.min(together, MOST_SIZE));
                } else if (together < sizes[place]) {
                    sizes[place] = together;
                }
            }
        }

        private void add(int code, int size) {
            if (count > LIMIT) {
                return;
            }
            codes[count] = code;
            sizes[count] = size;
            low[count] = base.threeOf(code, 0);
            middle[count] = base.threeOf(code, 3);
            high[count] = base.threeOf(code, 6);
            count++;
            placeOf[code] = count;
        }

        private void bringLeast(int e) {
            int least = e;
            for (int i = e + 1; i < count; i++) {
                if (isAhead(i, least)) {
                    least = i;
                }
            }
            change(e, least);
        }

        private boolean isAhead(int i, int j) {
            return sizes[i] < sizes[j] || (sizes[i] == sizes[j] && codes[i] < codes[j]);
        }

        private int largestSize(int from) {
            int largest = 0;
            for (int i = from; i < count; i++) {
                largest = Math.max(largest, sizes[i]);
            }
            return largest;
        }

        private void change(int i, int j) {
            changeIn(codes, i, j);
            changeIn(sizes, i, j);
            changeIn(low, i, j);
            changeIn(middle, i, j);
            changeIn(high, i, j);
            placeOf[codes[i]] = i + 1;
            placeOf[codes[j]] = j + 1;
        }

        private void changeIn(int[] list, int i, int j) {
            int held = list[i];
            list[i] = list[j];
            list[j] = held;
        }

        private void end(Made out) {
            out.isKnown = true;
            out.isNone = count > LIMIT;
            out.count = out.isNone ? 0 : count;
            for (int e = 0; e < out.count; e++) {
                // Those of the greatest size may have been found in another order than by codes.
                bringLeast(e);
                out.codes[e] = codes[e];
                out.sizes[e] = sizes[e];
            }
            for (int i = 0; i < count; i++) {
                placeOf[codes[i]] = 0;
            }
        }
    }

    /** A set of numbers that can be asked for its n-th. */
    private static final class Found {
        private final long[] words;
        int count;

        Found(int numbers) {
            words = new long[Math.max(numbers, 0) / 64 + 1];
        }

        void clear() {
            Arrays.fill(words, 0);
            count = 0;
        }

        void add(int number) {
            int word = number >> 6;
            if (word >= 0 && word < words.length) {
                words[word] |= 1L << (number & 63);
                count++;
            }
        }

        int nth(int i) {
            if (i < 0 || i >= count) {
                return NONE;
            }
            int left = i;
            for (int w = 0; w < words.length; w++) {
                int here = Long.bitCount(words[w]);
                if (left < here) {
                    return w * 64 + nthBit(words[w], left);
                }
                left -= here;
            }
            return NONE;
        }

        private int nthBit(long word, int n) {
            int left = n;
            for (int bit = 0; bit < 64; bit++) {
                if ((word >>> bit & 1) != 0) {
                    if (left == 0) {
                        return bit;
                    }
                    left--;
                }
            }
            return NONE;
        }
    }

    /** Unknown things, of which each three may be limited to a set of rows. */
    private static final class Net {
        private static final int MOST_VARIABLES = 9;
        final int[] values = new int[MOST_VARIABLES];
        private final int[] allowed = new int[MOST_VARIABLES * MOST_VARIABLES * MOST_VARIABLES];
        /** The limits that tell something, by the last of their variables. */
        private final int[] checks = new int[allowed.length];
        private final int[] limits = new int[allowed.length];
        private final int[] starts = new int[MOST_VARIABLES + 1];
        private int d;
        private int variables;
        private int allRows;

        void start(int things, int count) {
            d = things;
            variables = Math.min(count, MOST_VARIABLES);
            allRows = (1 << d * d * d) - 1;
            Arrays.fill(allowed, allRows);
        }

        void limit(int p, int q, int r, int rows) {
            allowed[(p * MOST_VARIABLES + q) * MOST_VARIABLES + r] &= rows;
        }

        /** An act of the form keeps the law if its rows, put together, stay in it. */
        void restrain(Form form, Law law, Base base) {
            if (law.hasAllRows(base)) {
                return;
            }
            int firsts = law.tried(form.places, 3);
            int seconds = law.tried(form.places, 2);
            for (int i = 0; i < firsts; i++) {
                for (int j = 0; j < seconds; j++) {
                    for (int k = 0; k < law.count; k++) {
                        int p = form.variableAt(base.first, law.rows[i], law.rows[j], law.rows[k]);
                        int q = form.variableAt(base.second, law.rows[i], law.rows[j], law.rows[k]);
                        int r = form.variableAt(base.third, law.rows[i], law.rows[j], law.rows[k]);
                        limit(p, q, r, law.wide);
                    }
                }
            }
        }

        void order() {
            int next = 0;
            for (int last = 0; last < variables; last++) {
                starts[last] = next;
                for (int p = 0; p <= last; p++) {
                    for (int q = 0; q <= last; q++) {
                        boolean hasLast = p == last || q == last;
                        for (int r = hasLast ? 0 : last; r <= last; r++) {
                            int rows = allowed[(p * MOST_VARIABLES + q) * MOST_VARIABLES + r];
                            if (rows != allRows) {
                                checks[next] = p | q << 4 | r << 8;
                                limits[next] = rows;
                                next++;
                            }
                        }
                    }
                }
            }
            starts[variables] = next;
        }

        void findAll(Found out) {
            out.clear();
            gather(this, 0, 0, out);
        }

        /** Leaves in values the first that the form suits; false if there is none. */
        boolean findFirst(Form form) {
            for (int v = 0; v < form.constants; v++) {
                values[v] = v;
                if (!fits(v)) {
                    return false;
                }
            }
            return seek(this, form.constants, form);
        }

        private static void gather(Net net, int depth, int number, Found out) {
            if (depth >= net.variables) {
                out.add(number);
                return;
            }
            for (int v = 0; v < net.d; v++) {
                net.values[depth] = v;
                if (net.fits(depth)) {
                    gather(net, depth + 1, number * net.d + v, out);
                }
            }
        }

        private static boolean seek(Net net, int depth, Form form) {
            if (depth >= net.variables) {
                return form.suits(net.values, net.d);
            }
            for (int v = 0; v < net.d; v++) {
                net.values[depth] = v;
                if (net.fits(depth) && seek(net, depth + 1, form)) {
                    return true;
                }
            }
            return false;
        }

        private boolean fits(int last) {
            for (int c = starts[last]; c < starts[last + 1]; c++) {
                int key = checks[c];
                int row = values[key & 15] * d + values[key >> 4 & 15];
                row = row * d + values[key >> 8];
                if ((limits[c] >> row & 1) == 0) {
                    return false;
                }
            }
            return true;
        }
    }

    /**
     * A kind of acts: for each row which variable it tells. The first variables are constants, if
     * there are any, each its own thing; the rest come from the highest row down, so that the act
     * found first has the least code.
     */
    private static final class Form {
        int places;
        int constants;
        int variables;
        private boolean isHalf;
        private final int[] variable = new int[MOST_ROWS];
        private int d = 2;

        void beFree(int n, Base base) {
            begin(n, 0, base);
            for (int row = base.power(n) - 1; row >= 0; row--) {
                variable[row] = variables++;
            }
            repeat(base);
        }

        void beHalf(Base base) {
            begin(2, base.d, base);
            isHalf = true;
            for (int a = d - 1; a >= 0; a--) {
                variable[a * d + a] = a;
                for (int b = a - 1; b >= 0; b--) {
                    variable[a * d + b] = variables;
                    variable[b * d + a] = variables;
                    variables++;
                }
            }
            repeat(base);
        }

        void beMost(Base base) {
            begin(3, base.d, base);
            for (int row = base.wideRows - 1; row >= 0; row--) {
                int a = base.first[row];
                int b = base.second[row];
                int c = base.third[row];
                if (a == b || a == c) {
                    variable[row] = a;
                } else if (b == c) {
                    variable[row] = b;
                } else {
                    variable[row] = variables++;
                }
            }
        }

        void beSum(Base base) {
            begin(3, base.d, base);
            for (int row = 0; row < base.wideRows; row++) {
                int sum = base.first[row] - base.second[row] + base.third[row];
                variable[row] = Math.floorMod(sum, d == 2 ? 2 : 3);
            }
        }

        int variableAt(int[] things, int i, int j, int k) {
            return variable[(things[i] * d + things[j]) * d + things[k]];
        }

        /** That it does not matter which two of three a half takes first is not in its variables. */
        boolean suits(int[] values, int things) {
            if (!isHalf) {
                return true;
            }
            for (int a = 0; a < things; a++) {
                for (int b = 0; b < things; b++) {
                    for (int c = 0; c < things; c++) {
                        int left = told(values, told(values, a, b), c);
                        if (left != told(values, a, told(values, b, c))) {
                            return false;
                        }
                    }
                }
            }
            return true;
        }

        long code(int[] values, Base base) {
            long code = 0;
            for (int row = base.power(places) - 1; row >= 0; row--) {
                code = code * base.d + values[variable[row]];
            }
            return code;
        }

        private void begin(int n, int constantCount, Base base) {
            d = base.d;
            places = n;
            constants = constantCount;
            variables = constantCount;
            isHalf = false;
        }

        /** As with acts, places ahead of its own are not looked at. */
        private void repeat(Base base) {
            int rows = base.power(places);
            for (int row = rows; row < base.wideRows; row++) {
                variable[row] = variable[row - rows];
            }
        }

        private int told(int[] values, int a, int b) {
            return values[variable[a * d + b]];
        }
    }

    /** Unknowns and asks. */
    private static final class Riddle {
        static final int MOST_UNKNOWNS = 8;
        static final int MOST_ASKS = 30;
        /** Each round but the last takes a thing from an unknown. */
        private static final int MOST_ROUNDS = MOST_UNKNOWNS * 3 + 1;
        int unknowns = 1;
        int count;
        final int[] lawAt = new int[MOST_ASKS];
        final int[] first = new int[MOST_ASKS];
        final int[] second = new int[MOST_ASKS];
        final int[] third = new int[MOST_ASKS];
        final int[] domains = new int[MOST_UNKNOWNS];

        void start(int u) {
            unknowns = u;
            count = 0;
        }

        boolean isUnknown(int u) {
            return u >= 0 && u < unknowns;
        }

        int add(int l, int x, int y, int z) {
            lawAt[count] = l;
            first[count] = x;
            second[count] = y;
            third[count] = z;
            return count++;
        }

        int lawMask() {
            int mask = 0;
            for (int i = 0; i < count; i++) {
                mask |= 1 << lawAt[i];
            }
            return mask;
        }

        void narrow(Law[] laws, Base base) {
            Arrays.fill(domains, base.allThings());
            boolean changed = true;
            for (int round = 0; round < MOST_ROUNDS && changed; round++) {
                changed = false;
                for (int i = 0; i < count; i++) {
                    changed |= narrowBy(i, laws[lawAt[i]], base);
                }
            }
        }

        private boolean narrowBy(int i, Law law, Base base) {
            int firsts = 0;
            int seconds = 0;
            int thirds = 0;
            for (int r = 0; r < law.count; r++) {
                int a = base.first[law.rows[r]];
                int b = base.second[law.rows[r]];
                int c = base.third[law.rows[r]];
                if (isOpen(i, a, b, c)) {
                    firsts |= 1 << a;
                    seconds |= 1 << b;
                    thirds |= 1 << c;
                }
            }
            boolean changed = leave(first[i], firsts);
            changed |= leave(second[i], seconds);
            changed |= leave(third[i], thirds);
            return changed;
        }

        private boolean isOpen(int i, int a, int b, int c) {
            if (!canHave(first[i], a) || !canHave(second[i], b) || !canHave(third[i], c)) {
                return false;
            }
            return (first[i] != second[i] || a == b)
                && (second[i] != third[i] || b == c)
                && (first[i] != third[i] || a == c);
        }

        private boolean canHave(int u, int thing) {
            return (domains[u] >> thing & 1) != 0;
        }

        private boolean leave(int u, int things) {
            int before = domains[u];
            domains[u] = before & things;
            return domains[u] != before;
        }
    }
}
