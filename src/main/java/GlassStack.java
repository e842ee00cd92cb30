import java.util.NoSuchElementException;

/**
 * Two stacks of clear layers, a list of indices to choose layers from, and a row of thick panes;
 * all that they send back and on is reckoned exactly. Every row of limbs is made once, in a
 * constructor: no call leaves anything behind in the memory but the exception that it throws.
 */
public final class GlassStack {
    public static final int NONE = -1;

    private static final int GREATEST_PART = 9;
    private static final int GREATEST_WIDTH = 4;
    private static final int GREATEST_LIGHT = 25;
    private static final int SAME_LIGHT = 49;
    private static final int PARTS = 40;
    private static final int ENTRIES = 4;
    private static final int MOST_LISTED = 6;
    private static final int MOST_CHOSEN = 3;

    private final Pile pileZero = new Pile();
    private final Pile pileOne = new Pile();
    private final Pile trial = new Pile();
    private final int[] listUp = new int[MOST_LISTED];
    private final int[] listBelow = new int[MOST_LISTED];
    private final int[] numbers = new int[MOST_CHOSEN];
    private final int[] bestNumbers = new int[MOST_CHOSEN];
    private final Panes panes = new Panes();
    private final Table table = new Table();
    private final Fraction told = new Fraction();
    private final Fraction best = new Fraction();
    private final Fraction rival = new Fraction();
    private int lightUp = 0;
    private int lightBelow = 1;
    private int listed = 0;

    public GlassStack() {
    }

    public void edge(int stack, int what, int up, int below) throws IndexOutOfBoundsException, IllegalArgumentException {
        Pile pile = pileAt(stack);
        if (what != Pile.AIR && what != Pile.GROUND) {
            throw new IllegalArgumentException("an edge is 0, the air, or 1, the ground");
        }
        needIndex(up, below);
        pile.setEdge(what, up, below);
    }

    public int layer(int stack, int i, int up, int below, int width) throws IndexOutOfBoundsException, IllegalArgumentException {
        Pile pile = pileAt(stack);
        needIndex(up, below);
        if (width < 1 || width > GREATEST_WIDTH) {
            throw new IllegalArgumentException("a width is 1 to 4");
        }
        if (i < 0 || i > pile.count) {
            throw new IllegalArgumentException("no such place");
        }
        return pile.insert(i, up, below, width) ? pile.count : NONE;
    }

    public int drop(int stack, int i) throws IndexOutOfBoundsException, NoSuchElementException {
        Pile pile = pileAt(stack);
        if (i < 0 || i >= pile.count) {
            throw new NoSuchElementException("no such layer");
        }
        pile.remove(i);
        return pile.count;
    }

    public int about(int stack, int i, int what) throws IndexOutOfBoundsException, NoSuchElementException {
        Pile pile = pileAt(stack);
        if (i == NONE && what == 0) {
            return pile.count;
        }
        if (i == -2 && (what == 0 || what == 1)) {
            return pile.edgePart(Pile.AIR, what);
        }
        if (i == -3 && (what == 0 || what == 1)) {
            return pile.edgePart(Pile.GROUND, what);
        }
        if (i < 0 || i >= pile.count || what < 0 || what > 2) {
            throw new NoSuchElementException("no such layer, or nothing such about it");
        }
        return pile.layerPart(i, what);
    }

    public void turn(int stack) throws IndexOutOfBoundsException {
        pileAt(stack).reverse();
    }

    public void copy(int stack) throws IndexOutOfBoundsException {
        Pile pile = pileAt(stack);
        Pile other = stack == 0 ? pileOne : pileZero;
        other.becomeLike(pile);
    }

    public void light(int u, int v) throws IllegalArgumentException {
        needLightBelow(v);
        if (u < -v || u > v) {
            throw new IllegalArgumentException("a cosine is -1 to 1");
        }
        lightUp = u;
        lightBelow = v;
    }

    public int back(int stack, boolean below, int k) throws IndexOutOfBoundsException, IllegalArgumentException {
        Pile pile = pileAt(stack);
        needPart(k);
        table.tellBack(told, pile, lightUp, lightBelow);
        told.toLowestTerms();
        return told.part(below, k);
    }

    public int on(int stack, boolean below, int k) throws IndexOutOfBoundsException, IllegalArgumentException {
        Pile pile = pileAt(stack);
        needPart(k);
        table.tellBack(told, pile, lightUp, lightBelow);
        told.toRestOfOne();
        told.toLowestTerms();
        return told.part(below, k);
    }

    public int entry(int stack, int entry, boolean below, int k) throws IndexOutOfBoundsException, IllegalArgumentException {
        Pile pile = pileAt(stack);
        needEntry(entry);
        needPart(k);
        table.reckon(pile, lightUp, lightBelow);
        table.tellSize(told, entry);
        told.toLowestTerms();
        return told.part(below, k);
    }

    public int sign(int stack, int entry) throws IndexOutOfBoundsException, IllegalArgumentException {
        Pile pile = pileAt(stack);
        needEntry(entry);
        table.reckon(pile, lightUp, lightBelow);
        return Limbs.signOf(table.rowOf(entry));
    }

    public boolean stops(int stack) throws IndexOutOfBoundsException {
        Pile pile = pileAt(stack);
        table.reckon(pile, lightUp, lightBelow);
        return table.isStopping();
    }

    public int less() {
        table.tellBack(best, pileZero, lightUp, lightBelow);
        table.tellBack(rival, pileOne, lightUp, lightBelow);
        int order = best.compareWith(rival);
        if (order == 0) {
            return NONE;
        }
        return order < 0 ? 0 : 1;
    }

    public int extreme(int stack, int v, boolean least) throws IndexOutOfBoundsException, IllegalArgumentException {
        Pile pile = pileAt(stack);
        needLightBelow(v);
        int bestUp = -v;
        table.tellBack(best, pile, bestUp, v);
        // With - c for c the entries only change their signs, A and D together, B and G together:
        // BACK is alike at u and - u, so no u above 0 is the least one.
        for (int u = 1 - v; u <= 0; u++) {
            table.tellBack(rival, pile, u, v);
            int order = rival.compareWith(best);
            if (least ? order < 0 : order > 0) {
                best.becomeLike(rival);
                bestUp = u;
            }
        }
        return bestUp;
    }

    public boolean same() {
        if (!pileZero.hasEdgesOf(pileOne)) {
            return false;
        }
        // BACK is alike at j and - j, as in extreme.
        for (int j = 0; j <= SAME_LIGHT; j++) {
            table.tellBack(best, pileZero, j, SAME_LIGHT);
            table.tellBack(rival, pileOne, j, SAME_LIGHT);
            if (best.compareWith(rival) != 0) {
                return false;
            }
        }
        return true;
    }

    public int list(int up, int below) throws IllegalArgumentException {
        needIndex(up, below);
        int lowestUp = Pile.lowest(up, below);
        int lowestBelow = Pile.lowest(below, up);
        if (listed >= MOST_LISTED || isListed(lowestUp, lowestBelow)) {
            return NONE;
        }
        listUp[listed] = lowestUp;
        listBelow[listed] = lowestBelow;
        listed++;
        return listed;
    }

    public void unlist() {
        listed = 0;
    }

    public int choose(int stack, int n) throws IndexOutOfBoundsException, IllegalArgumentException {
        Pile pile = pileAt(stack);
        if (n < 0 || n > MOST_CHOSEN) {
            throw new IllegalArgumentException("0 to 3 layers can be chosen");
        }
        if (n > 0 && listed == 0) {
            return NONE;
        }
        int ways = waysToChoose(n);
        findBestNumbers(pile, n, ways);
        layNumbers(pile, bestNumbers, n);
        return ways;
    }

    public int pane(int backUp, int backBelow, int onUp, int onBelow) throws IllegalArgumentException {
        if (!Panes.isShare(backUp, backBelow) || !Panes.isShare(onUp, onBelow)) {
            throw new IllegalArgumentException("a share is 0 to 100 by 1 to 100");
        }
        if (backUp * onBelow + onUp * backBelow > backBelow * onBelow) {
            throw new IllegalArgumentException("a pane sends back and on at most all");
        }
        return panes.append(backUp, backBelow, onUp, onBelow) ? panes.count : NONE;
    }

    public int clear() {
        int count = panes.count;
        panes.removeAll();
        return count;
    }

    public int share(int what, boolean below, int k) throws IllegalArgumentException {
        if (what < 0 || what > Panes.KEPT) {
            throw new IllegalArgumentException("a share of the panes is 0 to 3");
        }
        needPart(k);
        panes.tell(told, what);
        told.toLowestTerms();
        return told.part(below, k);
    }

    private Pile pileAt(int stack) {
        if (stack != 0 && stack != 1) {
            throw new IndexOutOfBoundsException("no such stack");
        }
        return stack == 0 ? pileZero : pileOne;
    }

    private static void needIndex(int up, int below) {
        if (up < 1 || up > GREATEST_PART || below < 1 || below > GREATEST_PART) {
            throw new IllegalArgumentException("an index is 1 to 9 by 1 to 9");
        }
    }

    private static void needLightBelow(int v) {
        if (v < 1 || v > GREATEST_LIGHT) {
            throw new IllegalArgumentException("a cosine's lower part is 1 to 25");
        }
    }

    private static void needPart(int k) {
        if (k < 0 || k >= PARTS) {
            throw new IllegalArgumentException("a part is 0 to 39");
        }
    }

    private static void needEntry(int entry) {
        if (entry < 0 || entry >= ENTRIES) {
            throw new IllegalArgumentException("an entry is 0 to 3");
        }
    }

    private boolean isListed(int up, int below) {
        for (int i = 0; i < listed && i < MOST_LISTED; i++) {
            if (listUp[i] == up && listBelow[i] == below) {
                return true;
            }
        }
        return false;
    }

    private int waysToChoose(int n) {
        int ways = 1;
        for (int i = 0; i < n; i++) {
            ways *= listed;
        }
        return ways;
    }

    private void findBestNumbers(Pile pile, int n, int ways) {
        trial.becomeLike(pile);
        for (int i = 0; i < MOST_CHOSEN; i++) {
            numbers[i] = 0;
        }
        for (int way = 0; way < ways; way++) {
            layNumbers(trial, numbers, n);
            table.tellBack(rival, trial, lightUp, lightBelow);
            if (way == 0 || rival.compareWith(best) < 0) {
                best.becomeLike(rival);
                System.arraycopy(numbers, 0, bestNumbers, 0, MOST_CHOSEN);
            }
            advanceNumbers(n);
        }
    }

    /** The last layer's number goes on first, so that of like ways the one met first is the one due. */
    private void advanceNumbers(int n) {
        for (int i = Math.min(n, MOST_CHOSEN) - 1; i >= 0; i--) {
            numbers[i]++;
            if (numbers[i] < listed) {
                return;
            }
            numbers[i] = 0;
        }
    }

    private void layNumbers(Pile pile, int[] chosen, int n) {
        pile.removeAll();
        for (int i = 0; i < n && i < chosen.length; i++) {
            int number = chosen[i];
            if (number >= 0 && number < listed && number < MOST_LISTED) {
                pile.insert(pile.count, listUp[number], listBelow[number], 1);
            }
        }
    }

    /** A stack: its two edges and its layers, every index in lowest terms. */
    private static final class Pile {
        static final int AIR = 0;
        static final int GROUND = 1;
        static final int MOST_LAYERS = 6;

        final int[] edgeUp = {1, 1};
        final int[] edgeBelow = {1, 1};
        final int[] up = new int[MOST_LAYERS];
        final int[] below = new int[MOST_LAYERS];
        final int[] width = new int[MOST_LAYERS];
        int count = 0;

        /** One part of an index as it is in lowest terms, the other part being as told. */
        static int lowest(int part, int other) {
            for (int divisor = GREATEST_PART; divisor > 1; divisor--) {
                if (part % divisor == 0 && other % divisor == 0) {
                    return part / divisor;
                }
            }
            return part;
        }

        void setEdge(int what, int newUp, int newBelow) {
            int place = what == AIR ? AIR : GROUND;
            edgeUp[place] = lowest(newUp, newBelow);
            edgeBelow[place] = lowest(newBelow, newUp);
        }

        int edgePart(int what, int part) {
            int place = what == AIR ? AIR : GROUND;
            return part == 0 ? edgeUp[place] : edgeBelow[place];
        }

        boolean hasEdgesOf(Pile other) {
            return edgeUp[AIR] == other.edgeUp[AIR] && edgeBelow[AIR] == other.edgeBelow[AIR]
                && edgeUp[GROUND] == other.edgeUp[GROUND] && edgeBelow[GROUND] == other.edgeBelow[GROUND];
        }

        boolean insert(int i, int newUp, int newBelow, int newWidth) {
            if (count >= MOST_LAYERS || i < 0 || i > count) {
                return false;
            }
            for (int j = count; j > i; j--) {
                moveLayer(j - 1, j);
            }
            up[i] = lowest(newUp, newBelow);
            below[i] = lowest(newBelow, newUp);
            width[i] = newWidth;
            count++;
            return true;
        }

        void remove(int i) {
            if (i < 0 || i >= count) {
                return;
            }
            count--;
            for (int j = i; j < count; j++) {
                moveLayer(j + 1, j);
            }
        }

        void removeAll() {
            count = 0;
        }

        int layerPart(int i, int part) {
            if (i < 0 || i >= count) {
                return 0;
            }
            if (part == 0) {
                return up[i];
            }
            return part == 1 ? below[i] : width[i];
        }

        void reverse() {
            swap(edgeUp, AIR, GROUND);
            swap(edgeBelow, AIR, GROUND);
            for (int i = 0, j = count - 1; i < j; i++, j--) {
                swap(up, i, j);
                swap(below, i, j);
                swap(width, i, j);
            }
        }

        void becomeLike(Pile other) {
            System.arraycopy(other.edgeUp, 0, edgeUp, 0, 2);
            System.arraycopy(other.edgeBelow, 0, edgeBelow, 0, 2);
            System.arraycopy(other.up, 0, up, 0, MOST_LAYERS);
            System.arraycopy(other.below, 0, below, 0, MOST_LAYERS);
            System.arraycopy(other.width, 0, width, 0, MOST_LAYERS);
            count = other.count;
        }

        private void moveLayer(int from, int to) {
            if (from < 0 || from >= MOST_LAYERS || to < 0 || to >= MOST_LAYERS) {
                return;
            }
            up[to] = up[from];
            below[to] = below[from];
            width[to] = width[from];
        }

        private static void swap(int[] row, int i, int j) {
            if (i < 0 || i >= row.length || j < 0 || j >= row.length) {
                return;
            }
            int kept = row[i];
            row[i] = row[j];
            row[j] = kept;
        }
    }

    /**
     * The table of a stack in whole numbers: with the cosine u / v, A and D are the rows a and d by
     * the row whole, B and G are v times the rows b and g by it. So z B G is z v v times b g by the
     * square of whole, and z v v = v v - u u is a whole number: nothing is divided on the way.
     * With |T k| at most 1, six layers at v = 49 stay below 2 to the power of 180.
     */
    private static final class Table {
        private final int[] a = new int[Limbs.SHORT];
        private final int[] b = new int[Limbs.SHORT];
        private final int[] g = new int[Limbs.SHORT];
        private final int[] d = new int[Limbs.SHORT];
        private final int[] whole = new int[Limbs.SHORT];
        private final int[] next = new int[Limbs.SHORT];
        private final int[] line = new int[Limbs.SHORT];
        private final int[] square = new int[Limbs.LONG];
        private int cosineUp = 0;
        private int cosineBelow = 1;
        private int sineSquare = 1;

        void reckon(Pile pile, int u, int v) {
            cosineUp = u;
            cosineBelow = v;
            sineSquare = v * v - u * u;
            Limbs.set(a, 1);
            Limbs.set(b, 0);
            Limbs.set(g, 0);
            Limbs.set(d, 1);
            Limbs.set(whole, 1);
            for (int i = 0; i < pile.count && i < Pile.MOST_LAYERS; i++) {
                appendLayer(pile.up[i], pile.below[i], pile.width[i]);
            }
        }

        int[] rowOf(int entry) {
            if (entry == 0) {
                return a;
            }
            if (entry == 1) {
                return b;
            }
            return entry == 2 ? g : d;
        }

        void tellSize(Fraction fraction, int entry) {
            Limbs.putSize(fraction.upper, rowOf(entry));
            if (entry == 1 || entry == 2) {
                Limbs.scale(fraction.upper, cosineBelow);
            }
            Limbs.put(fraction.lower, whole);
        }

        /** P and Q, both times the square of whole and of both edges' lower parts. */
        void tellBack(Fraction fraction, Pile pile, int u, int v) {
            reckon(pile, u, v);
            tellSquares(fraction.upper, pile, -1);
            tellSquares(fraction.lower, pile, 1);
        }

        boolean isStopping() {
            Limbs.put(line, a);
            Limbs.gain(line, d, 1);
            Limbs.putSize(next, line);
            Limbs.gain(next, whole, -2);
            return Limbs.signOf(next) > 0;
        }

        private void appendLayer(int up, int below, int width) {
            long belowSquare = (long) cosineBelow * cosineBelow;
            long t = cosineUp;
            long tAhead = 1;
            long u = 1;
            long uAhead = 0;
            long power = cosineBelow;
            for (int k = 1; k < width; k++) {
                long tNext = 2 * cosineUp * t - belowSquare * tAhead;
                long uNext = 2 * cosineUp * u - belowSquare * uAhead;
                tAhead = t;
                t = tNext;
                uAhead = u;
                u = uNext;
                power *= cosineBelow;
            }
            int both = up * below;
            passPair(a, b, t * both, u * below * below, u * up * up);
            passPair(d, g, t * both, u * up * up, u * below * below);
            Limbs.scale(whole, power * both);
        }

        /** A with B, and D with G, go through a layer alike, without the other pair. */
        private void passPair(int[] lead, int[] side, long straight, long toSide, long toLead) {
            Limbs.put(next, lead);
            Limbs.scale(next, straight);
            // In two steps: the product of both factors may be too wide for one.
            Limbs.put(line, side);
            Limbs.scale(line, toLead);
            Limbs.gain(next, line, -sineSquare);
            Limbs.scale(side, straight);
            Limbs.gain(side, lead, toSide);
            Limbs.put(lead, next);
        }

        private void tellSquares(int[] sum, Pile pile, int way) {
            int airUp = pile.edgeUp[Pile.AIR];
            int airBelow = pile.edgeBelow[Pile.AIR];
            int groundUp = pile.edgeUp[Pile.GROUND];
            int groundBelow = pile.edgeBelow[Pile.GROUND];
            squareLine(sum, a, airUp * groundBelow, d, way * groundUp * airBelow);
            squareLine(square, b, airUp * groundUp, g, way * airBelow * groundBelow);
            Limbs.gain(sum, square, sineSquare);
        }

        private void squareLine(int[] result, int[] one, int oneTimes, int[] other, int otherTimes) {
            Limbs.set(line, 0);
            Limbs.gain(line, one, oneTimes);
            Limbs.gain(line, other, otherTimes);
            Limbs.putSize(next, line);
            Limbs.multiply(result, next, next);
        }
    }

    /**
     * All panes as one: F is first by whole, L is last by whole, O is through by whole. The row
     * inner is (through * through - first * last) by whole, always a whole number; with it one more
     * pane only adds and multiplies. A pane's b and o are x and y by m, m at most 10,000, so eight
     * panes stay below 2 to the power of 213.
     */
    private static final class Panes {
        static final int KEPT = 3;
        private static final int MOST_PANES = 8;
        private static final int GREATEST_SHARE_PART = 100;

        private final int[] first = new int[Limbs.SHORT];
        private final int[] inner = new int[Limbs.SHORT];
        private final int[] whole = new int[Limbs.SHORT];
        private final int[] last = new int[Limbs.SHORT];
        private final int[] through = new int[Limbs.SHORT];
        private final int[] next = new int[Limbs.SHORT];
        int count = 0;

        Panes() {
            setNothing();
        }

        static boolean isShare(int up, int below) {
            return up >= 0 && up <= GREATEST_SHARE_PART && below >= 1 && below <= GREATEST_SHARE_PART;
        }

        void removeAll() {
            count = 0;
            setNothing();
        }

        boolean append(int backUp, int backBelow, int onUp, int onBelow) {
            if (count >= MOST_PANES) {
                return false;
            }
            count++;
            long m = backBelow * onBelow;
            long x = backUp * onBelow;
            long y = onUp * backBelow;
            Limbs.put(next, whole);
            Limbs.scale(next, m);
            Limbs.gain(next, last, -x);
            // 1 - L b is 0 only where L and b are 1. Nothing went on before then: F, L = b = 1 and
            // O = 0 stay as they are.
            if (Limbs.signOf(next) != 0) {
                passPair(whole, last, m * m, -x * m, x * m, y * y - x * x);
                passPair(first, inner, m * m, x * m, -x * m, y * y - x * x);
                Limbs.scale(through, y * m);
            }
            return true;
        }

        void tell(Fraction fraction, int what) {
            if (what == KEPT) {
                Limbs.put(next, whole);
                Limbs.gain(next, first, -1);
                Limbs.gain(next, through, -1);
                Limbs.put(fraction.upper, next);
            } else {
                Limbs.put(fraction.upper, rowOf(what));
            }
            Limbs.put(fraction.lower, whole);
        }

        private int[] rowOf(int what) {
            if (what == 0) {
                return first;
            }
            return what == 1 ? last : through;
        }

        private void setNothing() {
            Limbs.set(first, 0);
            Limbs.set(last, 0);
            Limbs.set(inner, 1);
            Limbs.set(whole, 1);
            Limbs.set(through, 1);
        }

        private void passPair(int[] lead, int[] side, long leadStays, long toLead, long toSide, long sideStays) {
            Limbs.put(next, lead);
            Limbs.scale(next, leadStays);
            Limbs.gain(next, side, toLead);
            Limbs.scale(side, sideStays);
            Limbs.gain(side, lead, toSide);
            Limbs.put(lead, next);
        }
    }

    /** A fraction that is not below 0, its lower part above 0. */
    private static final class Fraction {
        final int[] upper = new int[Limbs.LONG];
        final int[] lower = new int[Limbs.LONG];
        private final int[] left = new int[Limbs.LONG + Limbs.LONG];
        private final int[] right = new int[Limbs.LONG + Limbs.LONG];

        void becomeLike(Fraction other) {
            Limbs.put(upper, other.upper);
            Limbs.put(lower, other.lower);
        }

        void toRestOfOne() {
            Limbs.scale(upper, -1);
            Limbs.gain(upper, lower, 1);
        }

        int compareWith(Fraction other) {
            Limbs.multiply(left, upper, other.lower);
            Limbs.multiply(right, other.upper, lower);
            return Limbs.compare(left, right, left.length);
        }

        void toLowestTerms() {
            if (Limbs.signOf(upper) == 0) {
                Limbs.set(lower, 1);
                return;
            }
            // The twos go first: both the divisor's search and the exact division want odd numbers.
            int twos = Math.min(Limbs.twosOf(upper, upper.length), Limbs.twosOf(lower, lower.length));
            Limbs.shiftDown(upper, twos, upper.length);
            Limbs.shiftDown(lower, twos, lower.length);
            Limbs.put(left, upper);
            Limbs.put(right, lower);
            Limbs.shiftDown(left, Limbs.twosOf(left, left.length), left.length);
            Limbs.shiftDown(right, Limbs.twosOf(right, right.length), right.length);
            Limbs.meetAtDivisor(left, right);
            Limbs.divideExactly(upper, left);
            Limbs.divideExactly(lower, left);
        }

        int part(boolean below, int k) {
            int[] row = below ? lower : upper;
            return k >= 0 && k < row.length ? row[k] : 0;
        }
    }

    /**
     * Whole numbers as rows of limbs of 30 bits, the lowest first; one below 0 stands as what it
     * lacks to 2 to the power of the row's bits, so that sums and products need no look at signs.
     */
    private static final class Limbs {
        /** 240 bits: a table's rows and those of the panes. */
        static final int SHORT = 8;
        /** 480 bits: the square of a short row. */
        static final int LONG = 16;
        private static final int BITS = 30;
        private static final int MASK = (1 << BITS) - 1;

        static void set(int[] row, int value) {
            for (int i = 0; i < row.length; i++) {
                row[i] = i == 0 ? value : 0;
            }
        }

        /** Into a longer row only a number that is not below 0 may go. */
        static void put(int[] row, int[] from) {
            for (int i = 0; i < row.length; i++) {
                row[i] = i < from.length ? from[i] : 0;
            }
        }

        static void putSize(int[] row, int[] from) {
            if (signOf(from) >= 0) {
                put(row, from);
                return;
            }
            int carry = 0;
            for (int i = 0; i < row.length; i++) {
                if (i < from.length) {
                    carry -= from[i];
                    row[i] = carry & MASK;
                    carry >>= BITS;
                } else {
                    row[i] = 0;
                }
            }
        }

        static int signOf(int[] row) {
            for (int i = row.length - 1; i >= 0; i--) {
                if (i == row.length - 1 && row[i] >> (BITS - 1) != 0) {
                    return -1;
                }
                if (row[i] != 0) {
                    return 1;
                }
            }
            return 0;
        }

        /** The factor is of less than 31 bits, its sign aside. */
        static void scale(int[] row, long factor) {
            long carry = 0;
            for (int i = 0; i < row.length; i++) {
                carry += row[i] * factor;
                row[i] = (int) (carry & MASK);
                carry >>= BITS;
            }
        }

        /** The other row is as long as this one; the factor is as in scale. */
        static void gain(int[] row, int[] other, long factor) {
            long carry = 0;
            for (int i = 0; i < row.length && i < other.length; i++) {
                carry += row[i] + other[i] * factor;
                row[i] = (int) (carry & MASK);
                carry >>= BITS;
            }
        }

        /** Of numbers that are not below 0. */
        static void multiply(int[] result, int[] one, int[] other) {
            set(result, 0);
            for (int i = 0; i < one.length; i++) {
                if (one[i] != 0) {
                    gainRaised(result, other, one[i], i);
                }
            }
        }

        /** Of numbers that are not below 0, by their lowest limbs up to top. */
        static int compare(int[] one, int[] other, int top) {
            for (int i = Math.min(top, Math.min(one.length, other.length)) - 1; i >= 0; i--) {
                if (one[i] != other[i]) {
                    return one[i] < other[i] ? -1 : 1;
                }
            }
            return 0;
        }

        /** How often 2 divides the number. */
        static int twosOf(int[] row, int top) {
            for (int i = 0; i < top && i < row.length; i++) {
                if (row[i] != 0) {
                    return i * BITS + Integer.numberOfTrailingZeros(row[i]);
                }
            }
            return 0;
        }

        static void shiftDown(int[] row, int bits, int top) {
            if (bits <= 0) {
                return;
            }
            int end = Math.min(top, row.length);
            int limbs = bits / BITS;
            int rest = bits % BITS;
            for (int i = 0; i < end; i++) {
                int from = i + limbs;
                int low = from < end ? row[from] >>> rest : 0;
                int high = from + 1 < end ? row[from + 1] << (BITS - rest) & MASK : 0;
                row[i] = low | high;
            }
        }

        /**
         * Both rows, odd at first, become their greatest common divisor: the lesser goes off the
         * greater, then the twos go. Each step takes a bit at least, so the bits of both are enough.
         */
        static void meetAtDivisor(int[] one, int[] other) {
            int top = Math.min(one.length, other.length);
            for (int steps = 2 * BITS * top; steps > 0; steps--) {
                while (top > 1 && one[top - 1] == 0 && other[top - 1] == 0) {
                    top--;
                }
                int order = compare(one, other, top);
                if (order == 0) {
                    return;
                }
                if (order > 0) {
                    takeOff(one, other, top);
                } else {
                    takeOff(other, one, top);
                }
            }
        }

        /**
         * From the lowest limb up, by the inverse of the divisor's lowest limb: that needs neither
         * guesses nor the machine's division. The divisor is odd, leaves no rest, and its row is at
         * least as long.
         */
        static void divideExactly(int[] row, int[] divisor) {
            if (divisor.length == 0) {
                return;
            }
            int inverse = inverseOf(divisor[0]);
            for (int i = 0; i < row.length; i++) {
                int digit = row[i] * inverse & MASK;
                gainRaised(row, divisor, -digit, i);
                row[i] = digit;
            }
        }

        /** Each round doubles the right bits, of which an odd number itself has three. */
        private static int inverseOf(int odd) {
            int inverse = odd;
            for (int round = 0; round < 4; round++) {
                inverse *= 2 - odd * inverse;
            }
            return inverse;
        }

        private static void gainRaised(int[] row, int[] other, long factor, int places) {
            if (places < 0) {
                return;
            }
            long carry = 0;
            for (int i = places, j = 0; i < row.length && (j < other.length || carry != 0); i++, j++) {
                carry += row[i] + (j < other.length ? other[j] * factor : 0);
                row[i] = (int) (carry & MASK);
                carry >>= BITS;
            }
        }

        private static void takeOff(int[] greater, int[] lesser, int top) {
            int carry = 0;
            for (int i = 0; i < top && i < greater.length && i < lesser.length; i++) {
                carry += greater[i] - lesser[i];
                greater[i] = carry & MASK;
                carry >>= BITS;
            }
            shiftDown(greater, twosOf(greater, top), top);
        }
    }
}
