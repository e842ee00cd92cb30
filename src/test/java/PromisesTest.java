/** The document's promises one by one: ordinary inputs, the edges that it names, and wrong inputs. */
public final class PromisesTest extends Checks {
    private void newObject() {
        GlassStack x = new GlassStack();
        due.equal("NONE", GlassStack.NONE, -1);
        for (int stack = 0; stack < 2; stack++) {
            layers(x, stack);
            edges(x, stack, 1, 1, 1, 1);
            back(x, stack, 0, 1);
            on(x, stack, 1, 1);
        }
        share(x, 0, 0, 1);
        share(x, 1, 0, 1);
        share(x, 2, 1, 1);
        share(x, 3, 0, 1);
        due.isTrue("same()", x.same());
        due.equal("less()", x.less(), -1);
        due.equal("choose(0, 1)", x.choose(0, 1), -1);
        due.equal("clear()", x.clear(), 0);
        x.layer(0, 0, 3, 1, 1);
        due.equal("sign(0, 0) at 0 / 1", x.sign(0, 0), 0);
    }

    private void edge() {
        GlassStack x = new GlassStack();
        x.edge(0, 0, 6, 9);
        x.edge(0, 1, 8, 2);
        x.edge(1, 1, 1, 9);
        edges(x, 0, 2, 3, 4, 1);
        edges(x, 1, 1, 1, 1, 9);
        for (int stack : NO_STACKS) {
            due.outOfBounds("edge of stack " + stack, () -> x.edge(stack, 0, 1, 1));
        }
        due.outOfBounds("edge(2, 2, 0, 0)", () -> x.edge(2, 2, 0, 0));
        for (int what : new int[] {LEAST, -2, -1, 2, 3, MOST}) {
            due.illegal("edge " + what, () -> x.edge(0, what, 1, 1));
        }
        for (int part : new int[] {LEAST, -1, 0, 10, MOST}) {
            due.illegal("edge(0, 0, " + part + ", 1)", () -> x.edge(0, 0, part, 1));
            due.illegal("edge(0, 1, 1, " + part + ")", () -> x.edge(0, 1, 1, part));
        }
        edges(x, 0, 2, 3, 4, 1);
        due.nothing("edge(1, 0, 9, 9)", () -> x.edge(1, 0, 9, 9));
        edges(x, 1, 1, 1, 1, 9);
    }

    private void layer() {
        GlassStack x = new GlassStack();
        due.equal("first layer", x.layer(0, 0, 3, 1, 1), 1);
        due.equal("layer behind", x.layer(0, 1, 6, 4, 2), 2);
        due.equal("layer ahead", x.layer(0, 0, 9, 9, 4), 3);
        due.equal("layer between", x.layer(0, 1, 1, 9, 3), 4);
        layers(x, 0, 114, 193, 311, 322);
        layers(x, 1);
        due.equal("fifth", x.layer(0, 4, 2, 5, 1), 5);
        due.illegal("place 6 of 5", () -> x.layer(0, 6, 1, 1, 1));
        due.equal("sixth", x.layer(0, 5, 5, 2, 1), 6);
        for (int i = 0; i <= 6; i++) {
            due.equal("seventh at " + i, x.layer(0, i, 1, 1, 1), -1);
        }
        due.illegal("place 7 of 6", () -> x.layer(0, 7, 1, 1, 1));
        due.illegal("no width, and there are 6", () -> x.layer(0, 0, 1, 1, 5));
        due.illegal("no index, and there are 6", () -> x.layer(0, 0, 10, 1, 1));
        layers(x, 0, 114, 193, 311, 322, 251, 521);
        for (int stack : NO_STACKS) {
            due.outOfBounds("layer of stack " + stack, () -> x.layer(stack, 0, 1, 1, 1));
        }
        due.outOfBounds("layer(2, -1, 0, 0, 0)", () -> x.layer(2, -1, 0, 0, 0));
        for (int part : new int[] {LEAST, -1, 0, 10, MOST}) {
            due.illegal("layer of " + part + " by 1", () -> x.layer(1, 0, part, 1, 1));
            due.illegal("layer of 1 by " + part, () -> x.layer(1, 0, 1, part, 1));
        }
        for (int width : new int[] {LEAST, -1, 0, 5, MOST}) {
            due.illegal("layer of width " + width, () -> x.layer(1, 0, 1, 1, width));
        }
        for (int i : new int[] {LEAST, -1, 1, MOST}) {
            due.illegal("layer at " + i, () -> x.layer(1, i, 1, 1, 1));
        }
        layers(x, 1);
    }

    private void drop() {
        GlassStack x = withLayers(111, 212, 313, 414);
        due.equal("drop(0, 1)", x.drop(0, 1), 3);
        layers(x, 0, 111, 313, 414);
        due.noSuch("drop(0, 3)", () -> x.drop(0, 3));
        due.equal("drop(0, 2)", x.drop(0, 2), 2);
        due.equal("drop(0, 0)", x.drop(0, 0), 1);
        layers(x, 0, 313);
        due.equal("drop(0, 0)", x.drop(0, 0), 0);
        for (int i : new int[] {LEAST, -1, 0, 1, 6, MOST}) {
            due.noSuch("drop(0, " + i + ")", () -> x.drop(0, i));
        }
        for (int stack : NO_STACKS) {
            due.outOfBounds("drop of stack " + stack, () -> x.drop(stack, 0));
        }
        GlassStack full = withLayers(111, 212, 313, 414, 511, 612);
        due.equal("drop of the sixth", full.drop(0, 5), 5);
        due.equal("drop of the first", full.drop(0, 0), 4);
        layers(full, 0, 212, 313, 414, 511);
    }

    private void about() {
        GlassStack x = withLayers(863, 391);
        x.edge(0, 0, 8, 4);
        due.equal("about(0, 0, 0)", x.about(0, 0, 0), 4);
        due.equal("about(0, 0, 1)", x.about(0, 0, 1), 3);
        due.equal("about(0, 0, 2)", x.about(0, 0, 2), 3);
        due.equal("about(0, 1, 0)", x.about(0, 1, 0), 1);
        due.equal("about(0, 1, 1)", x.about(0, 1, 1), 3);
        due.equal("about(0, -1, 0)", x.about(0, GlassStack.NONE, 0), 2);
        edges(x, 0, 2, 1, 1, 1);
        for (int what : new int[] {LEAST, -1, 3, MOST}) {
            due.noSuch("about(0, 0, " + what + ")", () -> x.about(0, 0, what));
        }
        for (int what : new int[] {LEAST, -1, 1, 2, MOST}) {
            due.noSuch("about(0, -1, " + what + ")", () -> x.about(0, -1, what));
        }
        for (int what : new int[] {LEAST, -1, 2, 3, MOST}) {
            due.noSuch("about(0, -2, " + what + ")", () -> x.about(0, -2, what));
            due.noSuch("about(0, -3, " + what + ")", () -> x.about(0, -3, what));
        }
        for (int i : new int[] {LEAST, -4, 2, 6, MOST}) {
            due.noSuch("about(0, " + i + ", 0)", () -> x.about(0, i, 0));
        }
        for (int stack : NO_STACKS) {
            due.outOfBounds("about of stack " + stack, () -> x.about(stack, -1, 0));
        }
    }

    private void turn() {
        GlassStack x = withLayers(111, 212, 313);
        x.edge(0, 0, 2, 3);
        x.edge(0, 1, 5, 4);
        x.turn(0);
        layers(x, 0, 313, 212, 111);
        edges(x, 0, 5, 4, 2, 3);
        layers(x, 1);
        edges(x, 1, 1, 1, 1, 1);
        x.layer(0, 3, 4, 1, 4);
        x.turn(0);
        layers(x, 0, 414, 111, 212, 313);
        edges(x, 0, 2, 3, 5, 4);
        x.turn(1);
        layers(x, 1);
        for (int stack : NO_STACKS) {
            due.outOfBounds("turn of stack " + stack, () -> x.turn(stack));
        }
    }

    private void copy() {
        GlassStack x = withLayers(111, 232);
        x.edge(0, 0, 2, 3);
        x.edge(0, 1, 5, 4);
        x.layer(1, 0, 9, 1, 4);
        x.copy(0);
        layers(x, 1, 111, 232);
        edges(x, 1, 2, 3, 5, 4);
        x.drop(1, 0);
        x.edge(1, 0, 7, 1);
        layers(x, 0, 111, 232);
        edges(x, 0, 2, 3, 5, 4);
        x.copy(1);
        layers(x, 0, 232);
        edges(x, 0, 7, 1, 5, 4);
        for (int stack : NO_STACKS) {
            due.outOfBounds("copy of stack " + stack, () -> x.copy(stack));
        }
    }

    private void light() {
        GlassStack x = withLayers(111);
        x.light(3, 5);
        entry(x, 0, 1, 3, 5);
        x.light(-25, 25);
        entry(x, 0, -1, 1, 1);
        x.light(10, 25);
        entry(x, 0, 1, 2, 5);
        due.nothing("light(25, 25)", () -> x.light(25, 25));
        x.light(-24, 25);
        for (int v : new int[] {LEAST, -1, 0, 26, MOST}) {
            due.illegal("light(0, " + v + ")", () -> x.light(0, v));
        }
        due.illegal("light(MIN, MIN)", () -> x.light(LEAST, LEAST));
        for (int u : new int[] {LEAST, -6, 6, MOST}) {
            due.illegal("light(" + u + ", 5)", () -> x.light(u, 5));
        }
        entry(x, 0, -1, 24, 25);
    }

    private void needParts(String name, java.util.function.IntConsumer call) {
        for (int k : new int[] {LEAST, -1, 40, MOST}) {
            due.illegal(name + " part " + k, () -> call.accept(k));
        }
        due.nothing(name + " part 39", () -> call.accept(39));
    }

    private void back() {
        GlassStack x = new GlassStack();
        x.edge(0, 1, 3, 2);
        back(x, 0, 1, 25);
        x.edge(0, 0, 2, 1);
        back(x, 0, 1, 49);
        x.edge(0, 0, 1, 1);
        x.layer(0, 0, 2, 1, 1);
        x.light(3, 5);
        back(x, 0, 109, 709);
        x.light(-3, 5);
        back(x, 0, 109, 709);
        back(x, 1, 0, 1);
        for (int k = 1; k < 40; k++) {
            due.equal("back(0, false, " + k + ")", x.back(0, false, k), 0);
            due.equal("back(0, true, " + k + ")", x.back(0, true, k), 0);
        }
        for (int stack : NO_STACKS) {
            due.outOfBounds("back of stack " + stack, () -> x.back(stack, false, 0));
        }
        due.outOfBounds("back(2, false, 40)", () -> x.back(2, false, 40));
        needParts("back", k -> x.back(0, true, k));
    }

    private void on() {
        GlassStack x = new GlassStack();
        x.edge(1, 1, 3, 2);
        on(x, 1, 24, 25);
        on(x, 0, 1, 1);
        x.layer(1, 0, 2, 1, 1);
        x.light(3, 5);
        on(x, 1, 600, 709);
        for (int stack : NO_STACKS) {
            due.outOfBounds("on of stack " + stack, () -> x.on(stack, false, 0));
        }
        due.outOfBounds("on(-1, false, -1)", () -> x.on(-1, false, -1));
        needParts("on", k -> x.on(0, true, k));
    }

    private void entry() {
        GlassStack x = new GlassStack();
        entry(x, 0, 1, 1, 1);
        entry(x, 1, 0, 0, 1);
        entry(x, 2, 0, 0, 1);
        entry(x, 3, 1, 1, 1);
        x.layer(0, 0, 2, 3, 2);
        x.light(1, 3);
        entry(x, 0, -1, 7, 9);
        entry(x, 1, 1, 1, 1);
        entry(x, 2, 1, 4, 9);
        entry(x, 3, -1, 7, 9);
        x.layer(0, 1, 4, 1, 1);
        entry(x, 0, -1, 103, 27);
        entry(x, 1, 1, 5, 36);
        entry(x, 2, -1, 80, 27);
        entry(x, 3, -1, 29, 81);
        due.illegal("entry(0, -1)", () -> x.entry(0, -1, false, 0));
        due.illegal("entry(0, 4)", () -> x.entry(0, 4, false, 0));
        due.illegal("entry(0, MIN)", () -> x.entry(0, LEAST, false, 0));
        due.illegal("entry(0, MAX)", () -> x.entry(0, MOST, false, 0));
        for (int stack : NO_STACKS) {
            due.outOfBounds("entry of stack " + stack, () -> x.entry(stack, 0, false, 0));
        }
        due.outOfBounds("entry(2, 4, false, 40)", () -> x.entry(2, 4, false, 40));
        needParts("entry", k -> x.entry(0, 3, false, k));
    }

    private void sign() {
        GlassStack x = withLayers(311);
        due.equal("sign(0, 0)", x.sign(0, 0), 0);
        due.equal("sign(0, 1)", x.sign(0, 1), 1);
        x.light(-1, 2);
        due.equal("sign(0, 0)", x.sign(0, 0), -1);
        due.equal("sign(1, 0)", x.sign(1, 0), 1);
        due.equal("sign(1, 1)", x.sign(1, 1), 0);
        for (int entry : new int[] {LEAST, -1, 4, MOST}) {
            due.illegal("sign(0, " + entry + ")", () -> x.sign(0, entry));
        }
        for (int stack : NO_STACKS) {
            due.outOfBounds("sign of stack " + stack, () -> x.sign(stack, 0));
        }
        due.outOfBounds("sign(2, 4)", () -> x.sign(2, 4));
    }

    private void stops() {
        GlassStack x = withLayers(211, 311);
        due.isTrue("stops at 0", x.stops(0));
        due.isFalse("stops without layers", x.stops(1));
        x.light(1, 1);
        due.isFalse("stops at 1: A and D are 1", x.stops(0));
        x.light(0, 1);
        due.isFalse("stops with like layers: A and D are -1", withLayers(211, 211).stops(0));
        due.isFalse("stops with one layer", withLayers(914).stops(0));
        // A and D together are (25 c c - 13) / 6, so -2 where c is 1/5: not above.
        x.light(1, 5);
        due.isFalse("stops at 1/5", x.stops(0));
        x.light(-4, 21);
        due.isTrue("stops at -4/21", x.stops(0));
        x.light(4, 19);
        due.isFalse("stops at 4/19", x.stops(0));
        for (int stack : NO_STACKS) {
            due.outOfBounds("stops of stack " + stack, () -> x.stops(stack));
        }
    }

    private void less() {
        GlassStack x = new GlassStack();
        x.edge(0, 1, 3, 2);
        x.edge(1, 1, 4, 3);
        due.equal("1/25 and 1/49", x.less(), 1);
        x.edge(0, 1, 6, 5);
        due.equal("1/121 and 1/49", x.less(), 0);
        x.edge(0, 1, 3, 4);
        due.equal("1/49 and 1/49", x.less(), -1);
        x.edge(0, 1, 4, 1);
        x.layer(0, 0, 2, 1, 1);
        due.equal("0 and 1/49 at 0 / 1", x.less(), 0);
        x.light(1, 1);
        due.equal("9/25 and 1/49 at 1 / 1", x.less(), 1);
    }

    private void extreme() {
        GlassStack x = withLayers(211);
        x.edge(0, 1, 4, 1);
        x.light(2, 3);
        due.equal("extreme(0, 5, true)", x.extreme(0, 5, true), 0);
        due.equal("extreme(0, 5, false)", x.extreme(0, 5, false), -5);
        due.equal("extreme(0, 1, true)", x.extreme(0, 1, true), 0);
        due.equal("extreme(0, 25, false)", x.extreme(0, 25, false), -25);
        due.equal("extreme(1, 7, true), alike everywhere", x.extreme(1, 7, true), -7);
        due.equal("extreme(1, 7, false), alike everywhere", x.extreme(1, 7, false), -7);
        x.layer(1, 0, 3, 1, 2);
        // Width 2 between like edges: nothing goes back at c = -1, 0 and 1, most where c c is 1/2.
        due.equal("extreme(1, 4, true)", x.extreme(1, 4, true), -4);
        due.equal("extreme(1, 10, false)", x.extreme(1, 10, false), -7);
        due.equal("the light stays", x.entry(0, 0, true, 0), 3);
        for (int v : new int[] {LEAST, -1, 0, 26, MOST}) {
            due.illegal("extreme(0, " + v + ")", () -> x.extreme(0, v, true));
        }
        for (int stack : NO_STACKS) {
            due.outOfBounds("extreme of stack " + stack, () -> x.extreme(stack, 1, true));
        }
        due.outOfBounds("extreme(2, 0)", () -> x.extreme(2, 0, false));
    }

    private void same() {
        GlassStack x = withLayers(212, 311);
        due.isFalse("two layers and none", x.same());
        x.layer(1, 0, 2, 1, 1);
        x.layer(1, 0, 2, 1, 1);
        x.layer(1, 2, 3, 1, 1);
        due.isTrue("a layer in two halves", x.same());
        x.turn(1);
        due.isTrue("turned, with like edges", x.same());
        x.edge(1, 0, 2, 1);
        due.isFalse("another air", x.same());
        x.edge(1, 0, 1, 1);
        x.edge(1, 1, 2, 1);
        due.isFalse("another ground", x.same());
        x.edge(0, 1, 4, 2);
        due.isFalse("turned, with unlike edges", x.same());
        x.turn(0);
        due.isFalse("edges changed", x.same());
        x.copy(1);
        due.isTrue("a copy", x.same());
        GlassStack air = withLayers(114);
        due.isTrue("a layer of the air's index, and none", air.same());
        GlassStack four = withLayers(214);
        four.layer(1, 0, 2, 1, 2);
        due.equal("like much at 0 / 1", four.less(), -1);
        due.isFalse("like much at 0 / 1 alone", four.same());
        unlikeEdges(1, 2, 1, 1);
        unlikeEdges(2, 1, 4, 1);
        unlikeEdges(1, 1, 1, 2);
        unlikeEdges(2, 1, 1, 1);
    }

    /** Edges other than 1 and 2, of which one is twice the other: like much goes back at every turn. */
    private void unlikeEdges(int airUp, int airBelow, int groundUp, int groundBelow) {
        GlassStack x = new GlassStack();
        x.edge(0, 1, 2, 1);
        x.edge(1, 0, airUp, airBelow);
        x.edge(1, 1, groundUp, groundBelow);
        back(x, 0, 1, 9);
        back(x, 1, 1, 9);
        due.isFalse("same() with unlike edges", x.same());
    }

    private void list() {
        GlassStack x = new GlassStack();
        due.equal("list(2, 1)", x.list(2, 1), 1);
        due.equal("list(8, 4)", x.list(8, 4), -1);
        due.equal("list(1, 2)", x.list(1, 2), 2);
        for (int up = 3; up <= 6; up++) {
            due.equal("list(" + up + ", 1)", x.list(up, 1), up);
        }
        due.equal("a seventh", x.list(7, 1), -1);
        due.equal("one of the six", x.list(3, 1), -1);
        for (int part : new int[] {LEAST, -1, 0, 10, MOST}) {
            due.illegal("list(" + part + ", 1), full", () -> x.list(part, 1));
            due.illegal("list(1, " + part + "), full", () -> x.list(1, part));
        }
        due.equal("the seventh did not come", x.choose(0, 1), 6);
    }

    private void unlist() {
        GlassStack x = new GlassStack();
        x.unlist();
        x.list(2, 1);
        x.list(3, 1);
        x.unlist();
        due.equal("choose from none", x.choose(0, 1), -1);
        due.equal("list(3, 1) again", x.list(3, 1), 1);
        due.equal("choose from one", x.choose(0, 3), 1);
        layers(x, 0, 311, 311, 311);
    }

    /** Again nothing goes back where the second index is twice the first. */
    private void chooseInOrder() {
        GlassStack x = new GlassStack();
        x.edge(1, 1, 4, 1);
        x.list(4, 1);
        x.list(2, 1);
        x.list(1, 1);
        due.equal("choose(1, 2)", x.choose(1, 2), 9);
        layers(x, 1, 211, 411);
        due.equal("choose(1, 2) again", x.choose(1, 2), 9);
        layers(x, 1, 211, 411);
        x.unlist();
        x.list(3, 2);
        x.list(9, 1);
        x.list(3, 1);
        due.equal("choose(1, 2)", x.choose(1, 2), 9);
        layers(x, 1, 321, 311);
        x.unlist();
        x.list(9, 1);
        x.list(8, 1);
        x.list(2, 1);
        due.equal("choose(1, 3)", x.choose(1, 3), 27);
        layers(x, 1, 911, 911, 211);
    }

    private void choose() {
        GlassStack x = withLayers(912, 813);
        x.edge(0, 1, 4, 1);
        due.equal("choose(0, 1) without a list", x.choose(0, 1), -1);
        due.equal("choose(0, 3) without a list", x.choose(0, 3), -1);
        layers(x, 0, 912, 813);
        due.equal("choose(0, 0) without a list", x.choose(0, 0), 1);
        layers(x, 0);
        x.list(3, 1);
        x.list(1, 1);
        x.list(2, 1);
        x.list(6, 1);
        due.equal("choose(0, 1)", x.choose(0, 1), 4);
        layers(x, 0, 211);
        edges(x, 0, 1, 1, 4, 1);
        // Nothing goes back where the second index is twice the first: (3, 6) comes ahead of (1, 2).
        due.equal("choose(0, 2)", x.choose(0, 2), 16);
        layers(x, 0, 311, 611);
        back(x, 0, 0, 1);
        due.equal("choose(0, 3)", x.choose(0, 3), 64);
        layers(x, 1);
        chooseInOrder();
        x.light(1, 1);
        due.equal("choose(1, 3), all alike", x.choose(1, 3), 64);
        layers(x, 1, 311, 311, 311);
        x.list(9, 1);
        x.list(8, 1);
        due.equal("choose(1, 3) of six", x.choose(1, 3), 216);
        for (int n : new int[] {LEAST, -1, 4, MOST}) {
            due.illegal("choose(0, " + n + ")", () -> x.choose(0, n));
        }
        for (int stack : NO_STACKS) {
            due.outOfBounds("choose for stack " + stack, () -> x.choose(stack, 1));
        }
        due.outOfBounds("choose(2, 4)", () -> x.choose(2, 4));
        x.unlist();
        due.illegal("choose(0, 4) without a list", () -> x.choose(0, 4));
    }

    private void pane() {
        GlassStack x = new GlassStack();
        for (int i = 1; i <= 8; i++) {
            due.equal("pane " + i, x.pane(1, 100, 99, 100), i);
        }
        due.equal("a ninth", x.pane(1, 2, 1, 2), -1);
        due.illegal("a wrong ninth", () -> x.pane(1, 2, 51, 100));
        x.clear();
        for (int part : new int[] {LEAST, -1, 101, MOST}) {
            due.illegal("pane(" + part + ", 1, 0, 1)", () -> x.pane(part, 1, 0, 1));
            due.illegal("pane(0, " + part + ", 0, 1)", () -> x.pane(0, part, 0, 1));
            due.illegal("pane(0, 1, " + part + ", 1)", () -> x.pane(0, 1, part, 1));
            due.illegal("pane(0, 1, 0, " + part + ")", () -> x.pane(0, 1, 0, part));
        }
        due.illegal("pane(0, 0, 0, 1)", () -> x.pane(0, 0, 0, 1));
        due.illegal("pane(0, 1, 0, 0)", () -> x.pane(0, 1, 0, 0));
        due.illegal("pane(1, 2, 51, 100)", () -> x.pane(1, 2, 51, 100));
        due.illegal("pane(2, 1, 0, 1)", () -> x.pane(2, 1, 0, 1));
        due.illegal("pane(100, 99, 0, 1)", () -> x.pane(100, 99, 0, 1));
        due.equal("none of them came", x.clear(), 0);
        due.equal("pane(1, 3, 66, 99)", x.pane(1, 3, 66, 99), 1);
        due.equal("pane(0, 100, 100, 100)", x.pane(0, 100, 100, 100), 2);
        due.equal("pane(100, 100, 0, 100)", x.pane(100, 100, 0, 100), 3);
        due.equal("pane(0, 1, 0, 1)", x.pane(0, 1, 0, 1), 4);
    }

    private void clear() {
        GlassStack x = new GlassStack();
        due.equal("clear()", x.clear(), 0);
        x.pane(1, 2, 1, 4);
        x.pane(1, 2, 1, 4);
        due.equal("clear() of two", x.clear(), 2);
        due.equal("clear() again", x.clear(), 0);
        share(x, 0, 0, 1);
        share(x, 2, 1, 1);
        due.equal("pane after clear()", x.pane(1, 3, 1, 3), 1);
        share(x, 0, 1, 3);
        for (int i = 0; i < 7; i++) {
            x.pane(0, 1, 1, 1);
        }
        due.equal("clear() of eight", x.clear(), 8);
    }

    private void share() {
        GlassStack x = new GlassStack();
        x.pane(1, 2, 1, 4);
        shares(x, 1, 2, 1, 2, 1, 4, 1, 4);
        x.pane(1, 3, 1, 2);
        shares(x, 21, 40, 29, 60, 3, 20, 13, 40);
        x.clear();
        // F and O together have a lower part without 149, which is in those of F and of O.
        x.pane(50, 99, 1, 3);
        x.pane(50, 99, 1, 3);
        shares(x, 419500, 722799, 419500, 722799, 1089, 7301, 1312, 4851);
        x.clear();
        x.pane(1, 2, 1, 4);
        x.pane(1, 1, 0, 1);
        shares(x, 5, 8, 1, 1, 0, 1, 3, 8);
        x.pane(1, 1, 0, 1);
        shares(x, 5, 8, 1, 1, 0, 1, 3, 8);
        x.pane(1, 2, 1, 2);
        shares(x, 5, 8, 1, 1, 0, 1, 3, 8);
        x.pane(1, 3, 1, 3);
        shares(x, 5, 8, 1, 2, 0, 1, 3, 8);
        x.clear();
        x.pane(0, 1, 0, 1);
        shares(x, 0, 1, 0, 1, 0, 1, 1, 1);
        for (int what : new int[] {LEAST, -1, 4, MOST}) {
            due.illegal("share(" + what + ")", () -> x.share(what, false, 0));
        }
        needParts("share", k -> x.share(3, true, k));
    }

    public static void main(String[] args) {
        PromisesTest test = new PromisesTest();
        test.newObject();
        test.edge();
        test.layer();
        test.drop();
        test.about();
        test.turn();
        test.copy();
        test.light();
        test.back();
        test.on();
        test.entry();
        test.sign();
        test.stops();
        test.less();
        test.extreme();
        test.same();
        test.list();
        test.unlist();
        test.choose();
        test.pane();
        test.clear();
        test.share();
        test.due.end();
    }
}
