import java.math.BigInteger;

/** The boundary cases of terms 1 and 2 and of promises 9 to 16: a test for each sentence that names one. */
public final class LightBoundariesTest extends Checks {
    private static final BigInteger TWO = BigInteger.TWO;

    private void allEntries(GlassStack x, int... signUpBelow) {
        for (int entry = 0; entry < 4; entry++) {
            entry(x, entry, signUpBelow[3 * entry], signUpBelow[3 * entry + 1], signUpBelow[3 * entry + 2]);
        }
    }

    private void everyWidthsPolynomials() {
        // T and U of 1 to 4 at 2/3: 2/3, -1/9, -22/27, -79/81 and 1, 4/3, 7/9, -8/27.
        allEntries(at(2, 3, 911), 1, 2, 3, 1, 1, 9, 1, 9, 1, 1, 2, 3);
        allEntries(at(2, 3, 912), -1, 1, 9, 1, 4, 27, 1, 12, 1, -1, 1, 9);
        allEntries(at(2, 3, 913), -1, 22, 27, 1, 7, 81, 1, 7, 1, -1, 22, 27);
        allEntries(at(2, 3, 914), -1, 79, 81, -1, 8, 243, -1, 8, 3, -1, 79, 81);
        allEntries(at(2, 3, 191), 1, 2, 3, 1, 9, 1, 1, 1, 9, 1, 2, 3);
        allEntries(at(-2, 3, 194), -1, 79, 81, 1, 8, 3, 1, 8, 243, -1, 79, 81);
    }

    private void cosinesAtTheEnds() {
        for (int width = 1; width <= 4; width++) {
            // At 1 U k is k, at - 1 it is k or - k, at 0 it is 1, 0, -1, 0.
            allEntries(at(1, 1, 210 + width), 1, 1, 1, 1, width % 2 == 0 ? width / 2 : width,
                width % 2 == 0 ? 1 : 2, 1, 2 * width, 1, 1, 1, 1);
            int way = width % 2 == 0 ? -1 : 1;
            allEntries(at(-25, 25, 110 + width), -way, 1, 1, way, width, 1, way, width, 1, -way, 1, 1);
        }
        allEntries(at(0, 1, 311), 0, 0, 1, 1, 1, 3, 1, 3, 1, 0, 0, 1);
        allEntries(at(0, 25, 312), -1, 1, 1, 0, 0, 1, 0, 0, 1, -1, 1, 1);
        allEntries(at(0, 1, 313), 0, 0, 1, -1, 1, 3, -1, 3, 1, 0, 0, 1);
        allEntries(at(0, 1, 314), 1, 1, 1, 0, 0, 1, 0, 0, 1, 1, 1, 1);
    }

    private void tableOfNone() {
        int[][] lights = {{0, 1}, {1, 1}, {-1, 1}, {24, 25}, {-25, 25}, {1, 2}};
        for (int[] light : lights) {
            GlassStack x = at(light[0], light[1]);
            x.edge(0, 0, 9, 1);
            x.edge(0, 1, 2, 7);
            allEntries(x, 1, 1, 1, 0, 0, 1, 0, 0, 1, 1, 1, 1);
        }
        GlassStack emptied = at(3, 7, 213, 914);
        emptied.drop(0, 0);
        emptied.drop(0, 0);
        allEntries(emptied, 1, 1, 1, 0, 0, 1, 0, 0, 1, 1, 1, 1);
    }

    private void lowestTerms() {
        // The 0 of B and of BACK is 0 / 1, what stays the same is 1 / 1, and 4/6 is 2/3.
        GlassStack x = at(0, 25, 222);
        fraction("entry 1, 0", (below, k) -> x.entry(0, 1, below, k), 0, 1);
        GlassStack one = at(25, 25, 444);
        fraction("entry 3, 1", (below, k) -> one.entry(0, 3, below, k), 1, 1);
        GlassStack cosine = at(-16, 24, 111);
        fraction("entry 0, -2/3 in its size", (below, k) -> cosine.entry(0, 0, below, k), 2, 3);
        GlassStack none = new GlassStack();
        fraction("back, 0", (below, k) -> none.back(0, below, k), 0, 1);
        fraction("on, 1", (below, k) -> none.on(1, below, k), 1, 1);
    }

    private static GlassStack wide(int u, int v, int width) {
        GlassStack x = at(u, v);
        for (int left = width; left > 0; left -= 4) {
            add(x, 0, 110 + Math.min(left, 4));
        }
        return x;
    }

    private void thirtyBits() {
        // Of layers of index 1 A is T, B is U of all widths: at 1/8 the lower part of T k is
        // 2 to the 2 k + 1, that of U k 2 to the 2 k - 2; at 1/16 that of U k is 2 to the 3 k - 3.
        int[][] powers = {{8, 14, 0, 29}, {8, 15, 0, 31}, {8, 16, 1, 30}, {16, 21, 1, 60}, {16, 24, 1, 69}};
        for (int[] power : powers) {
            GlassStack x = wide(1, power[0], power[1]);
            for (int k = 0; k < PARTS; k++) {
                int want = k == power[3] / 30 ? 1 << power[3] % 30 : 0;
                due.equal("part " + k + " of 2 to the " + power[3], x.entry(0, power[2], true, k), want);
            }
        }
    }

    private void longestFractions() {
        // T 24 at 24/25 by the recurrence: 2 c T less the one ahead, over 25 to the 24.
        BigInteger below = BigInteger.valueOf(25);
        BigInteger ahead = BigInteger.ONE;
        BigInteger t = BigInteger.valueOf(24);
        for (int k = 1; k < 24; k++) {
            BigInteger next = t.multiply(BigInteger.valueOf(48)).subtract(ahead.multiply(BigInteger.valueOf(625)));
            ahead = t;
            t = next;
            below = below.multiply(BigInteger.valueOf(25));
        }
        GlassStack x = wide(24, 25, 24);
        fraction("T 24 at 24/25", (low, k) -> x.entry(0, 0, low, k), t.abs(), below);
        due.equal("its sign", x.sign(0, 0), t.signum());
        due.isTrue("parts below 2 to the power of 1,200", below.compareTo(TWO.pow(1200)) < 0);
    }

    /** What a long fraction leaves in the rows may not show in a short one. */
    private void shortBehindLong() {
        GlassStack x = at(12, 25, 684, 754, 594, 854, 594, 964);
        x.edge(0, 1, 9, 7);
        add(x, 1, 112);
        due.isTrue("back is long", x.back(0, false, 8) != 0);
        x.back(0, true, 0);
        x.light(-1, 1);
        fraction("B, -2", (below, k) -> x.entry(1, 1, below, k), 2, 1);
        x.light(12, 25);
        x.back(0, true, 0);
        x.light(0, 1);
        fraction("A, -1", (below, k) -> x.entry(1, 0, below, k), 1, 1);
        x.light(12, 25);
        x.back(0, false, 0);
        fraction("back, 0", (below, k) -> x.back(1, below, k), 0, 1);
        fraction("O", (below, k) -> x.share(2, below, k), 1, 1);
    }

    private void backParts() {
        for (int stack = 0; stack < 2; stack++) {
            GlassStack x = new GlassStack();
            int number = stack;
            range("back's part", 0, 39, Due.ILLEGAL, k -> x.back(number, false, k));
            range("back's part, below,", 0, 39, Due.ILLEGAL, k -> x.back(number, true, k));
        }
    }

    private void onParts() {
        for (int stack = 0; stack < 2; stack++) {
            GlassStack x = new GlassStack();
            int number = stack;
            range("on's part", 0, 39, Due.ILLEGAL, k -> x.on(number, false, k));
            range("on's part, below,", 0, 39, Due.ILLEGAL, k -> x.on(number, true, k));
        }
    }

    private void entryParts() {
        for (int entry = 0; entry < 4; entry++) {
            GlassStack x = new GlassStack();
            int number = entry;
            range("entry's part", 0, 39, Due.ILLEGAL, k -> x.entry(0, number, false, k));
            range("entry's part, below,", 0, 39, Due.ILLEGAL, k -> x.entry(1, number, true, k));
        }
    }

    private void leastAndMostBack() {
        // Without layers, and at - 1 and 1 with any, (a - g) by (a + g) squared goes back.
        int[][] stacks = {{}, {914, 193, 512}};
        for (int[] row : stacks) {
            for (int u = -1; u <= 1; u += 2) {
                GlassStack x = at(u, 1, row);
                back(x, 0, 0, 1);
                on(x, 0, 1, 1);
                x.edge(0, 0, 9, 1);
                x.edge(0, 1, 1, 9);
                back(x, 0, 1600, 1681);
                on(x, 0, 81, 1681);
            }
        }
        GlassStack quarter = at(0, 1, 311);
        quarter.edge(0, 1, 9, 1);
        back(quarter, 0, 0, 1);
        on(quarter, 0, 1, 1);
    }

    private void nearlyAllBack() {
        // At 0 six layers of 9 and 1/9 by turns have A -1/531441 and D -531441: with edges 1/9 and 9
        // a A and g D are as 1 to 81 times 531441 squared.
        GlassStack x = at(0, 1, 911, 191, 911, 191, 911, 191);
        x.edge(0, 0, 1, 9);
        x.edge(0, 1, 9, 1);
        BigInteger much = BigInteger.valueOf(531441).pow(2).multiply(BigInteger.valueOf(81));
        BigInteger less = much.subtract(BigInteger.ONE).divide(TWO);
        BigInteger more = much.add(BigInteger.ONE).divide(TWO);
        fraction("back", (below, k) -> x.back(0, below, k), less.pow(2), more.pow(2));
        fraction("on", (below, k) -> x.on(0, below, k), much, more.pow(2));
    }

    private void entryNumbers() {
        range("entry", 0, 3, Due.ILLEGAL, entry -> new GlassStack().entry(0, entry, false, 0));
        range("entry, below,", 0, 3, Due.ILLEGAL, entry -> new GlassStack().entry(1, entry, true, 39));
    }

    private void signNumbers() {
        range("sign", 0, 3, Due.ILLEGAL, entry -> new GlassStack().sign(0, entry));
        range("sign", 0, 3, Due.ILLEGAL, entry -> new GlassStack().sign(1, entry));
    }

    private void entrySizes() {
        GlassStack x = at(-3, 5, 212);
        // T 2 is -7/25, U 2 is -6/5.
        fraction("A", (below, k) -> x.entry(0, 0, below, k), 7, 25);
        fraction("B", (below, k) -> x.entry(0, 1, below, k), 3, 5);
        fraction("G", (below, k) -> x.entry(0, 2, below, k), 12, 5);
        fraction("D", (below, k) -> x.entry(0, 3, below, k), 7, 25);
        for (int entry = 0; entry < 4; entry++) {
            due.equal("sign(0, " + entry + ")", x.sign(0, entry), -1);
        }
    }

    private void signs() {
        // A and D of width 1 are c, B and G of width 2 are 2 c by and times the index.
        for (int u = -25; u <= 25; u++) {
            int want = Integer.compare(u, 0);
            GlassStack one = at(u, 25, 781);
            GlassStack two = at(u, 25, 892);
            due.equal("A at " + u + " / 25", one.sign(0, 0), want);
            due.equal("D at " + u + " / 25", one.sign(0, 3), want);
            due.equal("B at " + u + " / 25", two.sign(0, 1), want);
            due.equal("G at " + u + " / 25", two.sign(0, 2), want);
        }
    }

    private void signsOfTheSmallest() {
        // 9 and 1/9 by turns at 0: A is one 531441st below 0.
        GlassStack x = at(0, 1, 911, 191, 911, 191, 911, 191);
        due.equal("A", x.sign(0, 0), -1);
        due.equal("B", x.sign(0, 1), 0);
        due.equal("G", x.sign(0, 2), 0);
        due.equal("D", x.sign(0, 3), -1);
        // A of 1/4 behind 6 is c c less z / 24: 0 where c is 1/5.
        int[][] lights = {{1, 5, 0}, {-5, 25, 0}, {4, 19, 1}, {-4, 21, -1}, {5, 24, 1}, {3, 16, -1}};
        for (int[] light : lights) {
            due.equal("A at " + light[0] + " / " + light[1], at(light[0], light[1], 611, 141).sign(0, 0), light[2]);
        }
    }

    private void aboveFour() {
        // A and D of 2 and 3 are (25 c c - 13) / 6 together: -2 at 1/5. Twice behind one another
        // that is its square less 2: 2 where it is -2.
        int[][] lights = {{1, 5, 0}, {-1, 5, 0}, {5, 25, 0}, {4, 21, 1}, {-4, 21, 1}, {4, 19, 0}, {5, 24, 0},
            {3, 16, 1}, {0, 1, 1}, {1, 1, 0}, {-1, 1, 0}};
        for (int[] light : lights) {
            String name = "stops at " + light[0] + " / " + light[1];
            due.equal(name, at(light[0], light[1], 211, 311).stops(0) ? 1 : 0, light[2]);
            due.equal(name + ", twice", at(light[0], light[1], 211, 311, 211, 311).stops(0) ? 1 : 0, light[2]);
        }
    }

    private void justFour() {
        // One layer's A and D are 2 T k together: at most 2 in size, and that at the ends.
        for (int width = 1; width <= 4; width++) {
            for (int u = -25; u <= 25; u++) {
                due.isFalse("one layer stops at " + u + " / 25", at(u, 25, 910 + width).stops(0));
            }
        }
        due.isFalse("no layers stop", new GlassStack().stops(0));
        due.isFalse("no layers stop", new GlassStack().stops(1));
    }

    private void lessOfLike() {
        GlassStack x = new GlassStack();
        due.equal("nothing back from both", x.less(), -1);
        x.edge(0, 1, 3, 4);
        x.edge(1, 1, 4, 3);
        due.equal("1/49 from both", x.less(), -1);
        add(x, 0, 213);
        due.equal("unlike at 0", x.less() == -1 ? 1 : 0, 0);
        x.light(1, 1);
        due.equal("like at 1", x.less(), -1);
        x.light(-1, 1);
        due.equal("like at - 1", x.less(), -1);
    }

    private void lessByLittle() {
        // At 0 D is -531441 in one, -472392 in the other, A is 1 by D: both send nearly all back.
        GlassStack x = at(0, 1, 911, 191, 911, 191, 911, 191);
        add(x, 1, 911, 191, 911, 191, 911, 181);
        due.equal("the one with 1/9 sends more back", x.less(), 1);
        x.turn(0);
        x.turn(1);
        due.equal("turned", x.less(), 1);
        x.copy(0);
        due.equal("copied", x.less(), -1);
        x.drop(1, 0);
        x.layer(1, 0, 1, 8, 1);
        due.equal("now the second has 1/8 for a 1/9", x.less(), 1);
        x.copy(1);
        x.drop(0, 0);
        x.layer(0, 0, 1, 7, 1);
        due.equal("the first has 1/7 for an 1/8", x.less(), 0);
    }

    private void zeroOrOne() {
        // 1/25 and 1/49 go back.
        GlassStack x = new GlassStack();
        x.edge(0, 1, 3, 2);
        x.edge(1, 1, 4, 3);
        due.equal("1/25 and 1/49", x.less(), 1);
        x.edge(0, 1, 4, 3);
        x.edge(1, 1, 3, 2);
        due.equal("1/49 and 1/25", x.less(), 0);
        x.edge(0, 1, 1, 1);
        due.equal("0 and 1/25", x.less(), 0);
        x.edge(1, 1, 1, 1);
        x.edge(0, 1, 9, 1);
        due.equal("16/25 and 0", x.less(), 1);
    }

    private void extremeLights() {
        for (int stack = 0; stack < 2; stack++) {
            GlassStack x = new GlassStack();
            int number = stack;
            range("extreme's v", 1, 25, Due.ILLEGAL, v -> x.extreme(number, v, true));
            range("extreme's v, greatest,", 1, 25, Due.ILLEGAL, v -> x.extreme(number, v, false));
        }
    }

    private void extremeAtBothEnds() {
        // Like edges and one layer: nothing back at - 1 and 1, most at 0; a layer between 1 and its
        // square: nothing back at 0, most at - 1 and 1.
        for (int v = 1; v <= 25; v++) {
            GlassStack x = withLayers(311);
            add(x, 1, 211);
            x.edge(1, 1, 4, 1);
            due.equal("least of like edges, " + v, x.extreme(0, v, true), -v);
            due.equal("greatest of like edges, " + v, x.extreme(0, v, false), 0);
            due.equal("least of a quarter, " + v, x.extreme(1, v, true), 0);
            due.equal("greatest of a quarter, " + v, x.extreme(1, v, false), -v);
        }
    }

    private void extremeOfLikeOnes() {
        for (int v = 1; v <= 25; v++) {
            GlassStack x = at(1, 3);
            x.edge(0, 1, 3, 1);
            due.equal("least of all alike, " + v, x.extreme(0, v, true), -v);
            due.equal("greatest of all alike, " + v, x.extreme(0, v, false), -v);
        }
        // Width 3: nothing goes back where 4 c c is 1, at - 1/2 and 1/2, and at - 1 and 1.
        GlassStack three = withLayers(513);
        due.equal("least of width 3, v 2", three.extreme(0, 2, true), -2);
        // Between 1 and 9 3 of width 3 sends nothing back where T 3 is 0: at 0 alone among fractions.
        three.drop(0, 0);
        add(three, 0, 313);
        three.edge(0, 1, 9, 1);
        due.equal("least of width 3, v 15", three.extreme(0, 15, true), 0);
        // Most where T 3 is 1 or - 1: at - 1, - 1/2, 1/2 and 1.
        due.equal("greatest of width 3, v 24", three.extreme(0, 24, false), -24);
        // Width 2 between like edges: most where 2 c c is 1, beside 7/10.
        due.equal("greatest of width 2, v 10", withLayers(312).extreme(0, 10, false), -7);
    }

    private void extremeLeavesTheLight() {
        GlassStack x = at(3, 7, 111);
        add(x, 1, 212);
        x.extreme(0, 25, true);
        x.extreme(1, 1, false);
        entry(x, 0, 1, 3, 7);
        due.illegal("extreme(0, 26)", () -> x.extreme(0, 26, true));
        entry(x, 0, 1, 3, 7);
    }

    private void sameEdges() {
        // Unlike in one of the four parts alone.
        int[][] edges = {{5, 7, 5, 7}, {4, 7, 5, 7}, {5, 8, 5, 7}, {5, 7, 4, 7}, {5, 7, 5, 8}};
        for (int[] edge : edges) {
            GlassStack x = new GlassStack();
            x.edge(0, 0, 5, 7);
            x.edge(0, 1, 5, 7);
            x.edge(1, 0, edge[0], edge[1]);
            x.edge(1, 1, edge[2], edge[3]);
            due.equal("same with air " + edge[0] + " / " + edge[1] + ", ground " + edge[2] + " / " + edge[3],
                x.same() ? 1 : 0, edge == edges[0] ? 1 : 0);
        }
        GlassStack terms = new GlassStack();
        terms.edge(0, 0, 4, 6);
        terms.edge(1, 0, 2, 3);
        terms.edge(0, 1, 3, 3);
        due.isTrue("same, edges told in other terms", terms.same());
    }

    private void likeBackUnlikeEdges() {
        // Without layers a and g send back what any two with the same ratio do, either way round:
        // unlike in the air's upper or lower part alone, in the ground's, in two of them, in all.
        unlike(1, 1, 2, 1, 4, 1, 2, 1);
        unlike(1, 1, 1, 2, 1, 4, 1, 2);
        unlike(2, 1, 1, 1, 2, 1, 4, 1);
        unlike(1, 2, 1, 1, 1, 2, 1, 4);
        unlike(1, 1, 2, 1, 2, 1, 1, 1);
        unlike(1, 1, 2, 1, 2, 1, 4, 1);
        unlike(1, 1, 2, 1, 1, 2, 1, 1);
        unlike(2, 3, 4, 5, 5, 4, 3, 2);
    }

    private void unlike(int... edges) {
        GlassStack x = new GlassStack();
        for (int i = 0; i < 4; i++) {
            x.edge(i / 2, i % 2, edges[2 * i], edges[2 * i + 1]);
        }
        due.equal("less()", x.less(), -1);
        due.isFalse("same() with unlike edges", x.same());
        x.copy(0);
        due.isTrue("same() with like edges", x.same());
    }

    private void sameAtEachCosine() {
        due.isTrue("without layers", new GlassStack().same());
        GlassStack six = withLayers(211, 311, 412, 521, 314, 713);
        six.copy(0);
        due.isTrue("six like layers", six.same());
        six.turn(1);
        due.isTrue("turned between like edges", six.same());
        six.edge(0, 1, 2, 1);
        six.edge(1, 1, 2, 1);
        due.isFalse("turned between unlike edges", six.same());
        GlassStack halves = withLayers(213, 213);
        add(halves, 1, 211, 211, 211, 211, 211, 211);
        due.isTrue("6 widths in 2 and in 6 layers", halves.same());
        GlassStack nothing = withLayers(114, 114, 114, 114, 114, 114);
        due.isTrue("six layers of the air's index, and none", nothing.same());
        nothing.edge(0, 1, 3, 2);
        nothing.edge(1, 1, 3, 2);
        due.isTrue("the same on another ground", nothing.same());
    }

    private void likeAtSomeCosines() {
        // Whatever the layers, like edges send like much back at - 1 and 1; widths 2 and 4 also at 0.
        GlassStack x = withLayers(212);
        add(x, 1, 314);
        int[][] lights = {{1, 1}, {-1, 1}, {0, 1}};
        for (int[] light : lights) {
            x.light(light[0], light[1]);
            due.equal("less at " + light[0], x.less(), -1);
            due.isFalse("same at " + light[0], x.same());
        }
        GlassStack one = at(1, 2, 211);
        one.copy(0);
        one.drop(1, 0);
        due.isFalse("a layer and none", one.same());
        add(one, 1, 212);
        due.isFalse("width 1 and 2", one.same());
        entry(one, 0, 1, 1, 2);
    }

    private void terms() {
        due.sentence("1. T k and U k are 2 c times the one ahead less the one ahead of that.", this::everyWidthsPolynomials);
        due.sentence("1. at c = u / v (- 1, 0 and 1)", this::cosinesAtTheEnds);
        due.sentence("1. Of none: A and D 1, B and G 0.", this::tableOfNone);
        due.sentence("1. BACK: P divided by Q. ON is 1 less BACK.", this::leastAndMostBack);
        due.sentence("1. ON is 1 less BACK. (hardly anything)", this::nearlyAllBack);
        due.sentence("1. STOPS: the square of (A and D) is above 4.", this::aboveFour);
        due.sentence("1. STOPS: above 4 (not 4)", this::justFour);
        due.sentence("1. SAME: AIR and GROUND of both are alike", this::sameEdges);
        due.sentence("1. SAME: and BACK is at each cosine j / 49, j from -49 to 49.", this::sameAtEachCosine);
        due.sentence("2. in lowest terms, the lower part above 0", this::lowestTerms);
        due.sentence("2. by parts of 30 bits: part k is bits 30 k on", this::thirtyBits);
        due.sentence("2. FRACTIONS are told in lowest terms (a short one behind a long one)", this::shortBehindLong);
        due.sentence("2. have parts below 2 to the power of 1,200", this::longestFractions);
    }

    private void promises() {
        due.sentence("9: IllegalArgumentException: k is not 0 to 39.", this::backParts);
        due.sentence("10: ON, likewise.", this::onParts);
        due.sentence("11: An entry of THE TABLE, likewise", this::entryParts);
        due.sentence("11: of its size", this::entrySizes);
        due.sentence("11: IllegalArgumentException: also another entry.", this::entryNumbers);
        due.sentence("12: Whether an entry is below 0 (-1), 0, above (1).", this::signs);
        due.sentence("12: below 0 (-1), 0, above (1) (by little)", this::signsOfTheSmallest);
        due.sentence("12: IllegalArgumentException: another entry.", this::signNumbers);
        due.sentence("14: NONE: like much.", this::lessOfLike);
        due.sentence("14: Which STACK sends less BACK: 0, 1", this::zeroOrOne);
        due.sentence("14: Which STACK sends less BACK: 0, 1 (by little)", this::lessByLittle);
        due.sentence("15: The least u from - v to v", this::extremeAtBothEnds);
        due.sentence("15: The least u at which BACK is least (of like ones)", this::extremeOfLikeOnes);
        due.sentence("15: (THE LIGHT stays.)", this::extremeLeavesTheLight);
        due.sentence("15: IllegalArgumentException: v is not 1 to 25.", this::extremeLights);
        due.sentence("16: Whether both STACKS are the SAME. (like BACK, unlike edges)", this::likeBackUnlikeEdges);
        due.sentence("16: Whether both STACKS are the SAME. (like BACK at some cosines)", this::likeAtSomeCosines);
    }

    public static void main(String[] args) {
        LightBoundariesTest test = new LightBoundariesTest();
        test.terms();
        test.promises();
        test.due.end();
    }
}
