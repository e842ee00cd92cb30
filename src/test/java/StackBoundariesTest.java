import java.util.Arrays;

/** The boundary cases of term 1 and of promises 1 to 8: a test for each sentence that names one. */
public final class StackBoundariesTest extends Checks {
    private static final int[] SIX = {111, 212, 313, 414, 511, 612};
    private static final int NEW_LAYER = 794;

    private static int[] first(int count) {
        return Arrays.copyOf(SIX, count);
    }

    private static int[] reversed(int[] row) {
        int[] result = new int[row.length];
        for (int i = 0; i < row.length; i++) {
            result[i] = row[row.length - 1 - i];
        }
        return result;
    }

    private void everyNumberOfCalls() {
        GlassStack x = new GlassStack();
        for (int call = 1; call <= 510; call += 2) {
            due.equal("call " + call + ", layer", x.layer(1, 0, 2, 1, 1), 1);
            due.equal("call " + (call + 1) + ", drop", x.drop(1, 0), 0);
        }
        due.equal("call 511, layer", x.layer(1, 0, 6, 4, 3), 1);
        due.equal("call 512, about", x.about(1, 0, 1), 2);
        GlassStack dear = new GlassStack();
        for (int up = 1; up <= 6; up++) {
            dear.list(up, 1);
        }
        for (int call = 7; call <= 512; call++) {
            due.equal("call " + call + ", choose", dear.choose(call % 2, 3), 216);
        }
    }

    private void twoStacks() {
        GlassStack x = new GlassStack();
        add(x, 0, 312);
        x.edge(0, 0, 2, 1);
        add(x, 1, 413, 521);
        x.edge(1, 1, 7, 1);
        layers(x, 0, 312);
        layers(x, 1, 413, 521);
        edges(x, 0, 2, 1, 1, 1);
        edges(x, 1, 1, 1, 7, 1);
    }

    private void edgesAtFirst() {
        edges(new GlassStack(), 0, 1, 1, 1, 1);
        edges(new GlassStack(), 1, 1, 1, 1, 1);
    }

    private void sixLayersInEach() {
        for (int stack = 0; stack < 2; stack++) {
            GlassStack x = new GlassStack();
            for (int i = 0; i < 6; i++) {
                due.equal("layer " + i, x.layer(stack, i, i + 1, 1, 4), i + 1);
            }
            due.equal("a seventh layer", x.layer(stack, 6, 7, 1, 4), -1);
            layers(x, stack, 114, 214, 314, 414, 514, 614);
            add(x, 1 - stack, SIX);
            layers(x, 1 - stack, SIX);
            layers(x, stack, 114, 214, 314, 414, 514, 614);
        }
    }

    private void orderFromTheAirOn() {
        GlassStack x = at(0, 1, 211, 311);
        entry(x, 0, -1, 3, 2);
        entry(x, 3, -1, 2, 3);
        GlassStack other = at(0, 1, 311, 211);
        entry(other, 0, -1, 2, 3);
        entry(other, 3, -1, 3, 2);
        x.edge(0, 1, 4, 1);
        other.edge(0, 1, 4, 1);
        // a A and g D are -3/2 and -8/3, in the other order -2/3 and -6.
        back(x, 0, 49, 625);
        back(other, 0, 16, 25);
    }

    private void indexParts() {
        int[] parts = {LEAST, -9, -1, 0, 1, 2, 3, 4, 5, 6, 7, 8, 9, 10, 11, 1 + 256, 9 - 65536, MOST};
        for (int up : parts) {
            for (int below : parts) {
                boolean is = up >= 1 && up <= 9 && below >= 1 && below <= 9;
                GlassStack x = new GlassStack();
                String name = up + " by " + below;
                due.equal("air " + name, Due.outcome(() -> x.edge(0, 0, up, below)), is ? Due.TAKEN : Due.ILLEGAL);
                due.equal("ground " + name, Due.outcome(() -> x.edge(1, 1, up, below)), is ? Due.TAKEN : Due.ILLEGAL);
                due.equal("layer " + name, Due.outcome(() -> x.layer(0, 0, up, below, 1)), is ? "1" : Due.ILLEGAL);
                due.equal("list " + name, Due.outcome(() -> x.list(up, below)), is ? "1" : Due.ILLEGAL);
            }
        }
    }

    private void everyIndexInLowestTerms() {
        for (int up = 1; up <= 9; up++) {
            for (int below = 1; below <= 9; below++) {
                GlassStack x = new GlassStack();
                x.layer(0, 0, up, below, 1);
                x.edge(0, 0, up, below);
                x.edge(0, 1, below, up);
                Oracle.Ratio n = Oracle.Ratio.of(up, below);
                int lowUp = n.up().intValue();
                int lowBelow = n.low().intValue();
                layers(x, 0, 100 * lowUp + 10 * lowBelow + 1);
                edges(x, 0, lowUp, lowBelow, lowBelow, lowUp);
            }
        }
    }

    private void widths() {
        range("a layer of width", 1, 4, Due.ILLEGAL, width -> {
            GlassStack x = new GlassStack();
            x.layer(0, 0, 1, 1, width);
            due.equal("its width", x.about(0, 0, 2), width);
        });
    }

    private void everyLight() {
        for (int v = -2; v <= 27; v++) {
            for (int u = -28; u <= 28; u++) {
                boolean is = v >= 1 && v <= 25 && u >= -v && u <= v;
                // A of one layer of width 1 is the cosine.
                GlassStack x = at(2, 3, 111);
                int cosine = u;
                int below = v;
                due.equal("light(" + u + ", " + v + ")", Due.outcome(() -> x.light(cosine, below)), is ? Due.TAKEN : Due.ILLEGAL);
                Oracle.Ratio now = is ? Oracle.Ratio.of(u, v) : Oracle.Ratio.of(2, 3);
                entry(x, 0, now.up().signum(), now.up().abs().intValue(), now.low().intValue());
            }
        }
    }

    private void farLights() {
        int[] far = {LEAST, LEAST + 1, -65536, -255, 257, 65537, MOST - 1, MOST};
        for (int n : far) {
            GlassStack x = at(2, 3, 111);
            due.illegal("light(0, " + n + ")", () -> x.light(0, n));
            due.illegal("light(1, " + n + ")", () -> x.light(1, n));
            due.illegal("light(" + n + ", 1)", () -> x.light(n, 1));
            due.illegal("light(" + n + ", 25)", () -> x.light(n, 25));
            due.illegal("light(" + n + ", " + n + ")", () -> x.light(n, n));
            entry(x, 0, 1, 2, 3);
        }
    }

    private void lightAtFirst() {
        GlassStack x = withLayers(111);
        entry(x, 0, 0, 0, 1);
        entry(x, 1, 1, 1, 1);
    }

    private void newObject() {
        GlassStack x = new GlassStack();
        layers(x, 0);
        layers(x, 1);
        due.noSuch("drop(0, 0)", () -> x.drop(0, 0));
        due.noSuch("drop(1, 0)", () -> x.drop(1, 0));
        due.equal("clear()", x.clear(), 0);
        shares(x, 0, 1, 0, 1, 1, 1, 0, 1);
        due.equal("choose(0, 1): the list is empty too", x.choose(0, 1), -1);
        GlassStack used = new GlassStack();
        add(used, 0, SIX);
        used.pane(1, 2, 1, 2);
        used.list(1, 1);
        layers(new GlassStack(), 0);
        due.equal("panes of another object", new GlassStack().clear(), 0);
        due.equal("the list of another object", new GlassStack().list(1, 1), 1);
    }

    private void airAndGround() {
        for (int stack = 0; stack < 2; stack++) {
            GlassStack x = new GlassStack();
            x.edge(stack, 0, 9, 1);
            edges(x, stack, 9, 1, 1, 1);
            x.edge(stack, 1, 1, 9);
            edges(x, stack, 9, 1, 1, 9);
            edges(x, 1 - stack, 1, 1, 1, 1);
        }
    }

    private void edgeWhat() {
        range("edge's what", 0, 1, Due.ILLEGAL, what -> new GlassStack().edge(0, what, 2, 1));
    }

    private void refusedEdge() {
        int[][] wrong = {{0, 0, 1}, {0, 10, 1}, {1, 1, 0}, {1, 1, 10}, {-1, 2, 1}, {2, 2, 1}};
        for (int[] call : wrong) {
            GlassStack x = new GlassStack();
            x.edge(0, 0, 2, 3);
            x.edge(0, 1, 4, 5);
            due.illegal("edge(0, " + call[0] + ", " + call[1] + ", " + call[2] + ")",
                () -> x.edge(0, call[0], call[1], call[2]));
            edges(x, 0, 2, 3, 4, 5);
        }
    }

    private static int[] inserted(int[] row, int place, int layer) {
        int[] result = new int[row.length + 1];
        for (int i = 0; i < result.length; i++) {
            result[i] = i < place ? row[i] : i == place ? layer : row[i - 1];
        }
        return result;
    }

    private static int[] without(int[] row, int place) {
        int[] result = new int[row.length - 1];
        for (int i = 0; i < result.length; i++) {
            result[i] = i < place ? row[i] : row[i + 1];
        }
        return result;
    }

    private void everyPlace() {
        for (int count = 0; count < 6; count++) {
            for (int place = 0; place <= count; place++) {
                GlassStack x = withLayers(first(count));
                due.equal("layer at " + place + " of " + count, x.layer(0, place, 7, 9, 4), count + 1);
                layers(x, 0, inserted(first(count), place, NEW_LAYER));
                layers(x, 1);
            }
        }
    }

    private void noSuchPlace() {
        for (int count = 0; count <= 6; count++) {
            int many = count;
            range("with " + count + " layers, place", 0, count, Due.ILLEGAL,
                place -> withLayers(first(many)).layer(0, place, 1, 1, 1));
            for (int place : new int[] {LEAST, -1, count + 1, MOST}) {
                GlassStack x = withLayers(first(count));
                due.illegal("layer at " + place + " of " + count, () -> x.layer(0, place, 7, 9, 4));
                layers(x, 0, first(count));
            }
        }
    }

    private void noSeventhLayer() {
        for (int stack = 0; stack < 2; stack++) {
            GlassStack x = new GlassStack();
            add(x, stack, SIX);
            for (int place = 0; place <= 6; place++) {
                due.equal("a seventh layer at " + place, x.layer(stack, place, 7, 9, 4), GlassStack.NONE);
            }
            layers(x, stack, SIX);
            x.drop(stack, 5);
            due.equal("a sixth again", x.layer(stack, 5, 7, 9, 4), 6);
            layers(x, stack, 111, 212, 313, 414, 511, NEW_LAYER);
        }
    }

    private void refusedLayer() {
        int[][] wrong = {{0, 1, 1}, {10, 1, 1}, {1, 0, 1}, {1, 10, 1}, {1, 1, 0}, {1, 1, 5}};
        for (int[] call : wrong) {
            GlassStack x = withLayers(212, 313);
            due.illegal("layer of " + call[0] + " by " + call[1] + ", width " + call[2],
                () -> x.layer(0, 1, call[0], call[1], call[2]));
            layers(x, 0, 212, 313);
        }
    }

    private void everyDrop() {
        for (int count = 1; count <= 6; count++) {
            for (int i = 0; i < count; i++) {
                GlassStack x = withLayers(first(count));
                add(x, 1, 991);
                due.equal("drop(0, " + i + ") of " + count, x.drop(0, i), count - 1);
                layers(x, 0, without(first(count), i));
                layers(x, 1, 111);
            }
        }
    }

    private void downToNone() {
        GlassStack x = withLayers(SIX);
        for (int left = 5; left >= 0; left--) {
            due.equal("drop of the last", x.drop(0, left), left);
        }
        due.noSuch("drop with none left", () -> x.drop(0, 0));
        layers(x, 0);
        due.equal("the first again", x.layer(0, 0, 1, 1, 1), 1);
    }

    private void noSuchDrop() {
        for (int count = 0; count <= 6; count++) {
            int many = count;
            range("drop with " + count + " layers,", 0, count - 1, Due.NO_SUCH, i -> withLayers(first(many)).drop(0, i));
            for (int i : new int[] {LEAST, -3, -2, -1, count, 6, MOST}) {
                GlassStack x = withLayers(first(count));
                due.noSuch("drop(0, " + i + ") of " + count, () -> x.drop(0, i));
                layers(x, 0, first(count));
            }
        }
    }

    /** By the document: NONE where there is none such. */
    private static int dueAbout(int[] row, int i, int what) {
        if (i >= 0 && i < row.length && what >= 0 && what <= 2) {
            return what == 0 ? row[i] / 100 : what == 1 ? row[i] / 10 % 10 : row[i] % 10;
        }
        if (i == -1 && what == 0) {
            return row.length;
        }
        if ((i == -2 || i == -3) && (what == 0 || what == 1)) {
            return i == -2 ? 8 + what : 5 + what;
        }
        return -1;
    }

    private void everyAbout() {
        int[] places = {LEAST, -256, -5, -4, -3, -2, -1, 0, 1, 2, 3, 4, 5, 6, 7, 256, 65536, MOST};
        int[] whats = {LEAST, -3, -2, -1, 0, 1, 2, 3, 4, 256, 65536, MOST};
        int[] row = {132, 943, 571, 894, 211, 352};
        for (int count = 0; count <= 6; count++) {
            int[] part = Arrays.copyOf(row, count);
            GlassStack x = withLayers(part);
            x.edge(0, 0, 8, 9);
            x.edge(0, 1, 5, 6);
            for (int i : places) {
                for (int what : whats) {
                    int want = dueAbout(part, i, what);
                    due.equal("about(0, " + i + ", " + what + ") of " + count, Due.outcome(() -> x.about(0, i, what)),
                        want == -1 ? Due.NO_SUCH : Integer.toString(want));
                }
            }
        }
    }

    private void everyTurn() {
        for (int count = 0; count <= 6; count++) {
            GlassStack x = withLayers(first(count));
            x.edge(0, 0, 2, 3);
            x.edge(0, 1, 5, 4);
            add(x, 1, 211, 314);
            x.edge(1, 0, 7, 1);
            x.turn(0);
            layers(x, 0, reversed(first(count)));
            edges(x, 0, 5, 4, 2, 3);
            layers(x, 1, 211, 314);
            edges(x, 1, 7, 1, 1, 1);
            x.turn(0);
            layers(x, 0, first(count));
            edges(x, 0, 2, 3, 5, 4);
            x.turn(1);
            layers(x, 1, 314, 211);
            edges(x, 1, 1, 1, 7, 1);
            layers(x, 0, first(count));
        }
    }

    private void everyCopy() {
        for (int from = 0; from <= 6; from++) {
            for (int over = 0; over <= 6; over++) {
                for (int stack = 0; stack < 2; stack++) {
                    GlassStack x = new GlassStack();
                    add(x, stack, first(from));
                    add(x, 1 - stack, reversed(first(over)));
                    x.edge(stack, 0, 2, 3);
                    x.edge(stack, 1, 5, 4);
                    x.copy(stack);
                    layers(x, 1 - stack, first(from));
                    edges(x, 1 - stack, 2, 3, 5, 4);
                    layers(x, stack, first(from));
                    edges(x, stack, 2, 3, 5, 4);
                }
            }
        }
    }

    private void copiesApart() {
        GlassStack x = withLayers(SIX);
        x.copy(0);
        x.drop(0, 0);
        x.edge(0, 0, 9, 1);
        x.turn(0);
        layers(x, 1, SIX);
        edges(x, 1, 1, 1, 1, 1);
        due.equal("the copy is full too", x.layer(1, 0, 1, 1, 1), -1);
    }

    private void terms() {
        due.sentence("An object is used for at most 512 calls", this::everyNumberOfCalls);
        due.sentence("1. STACKS 0 and 1", this::twoStacks);
        due.sentence("1. an AIR and a GROUND (indices, 1 at first)", this::edgesAtFirst);
        due.sentence("1. up to 6 LAYERS", this::sixLayersInEach);
        due.sentence("1. in order from the AIR on", this::orderFromTheAirOn);
        due.sentence("1. An INDEX is a fraction of 1 to 9 by 1 to 9.", this::indexParts);
        due.sentence("1. a WIDTH, 1 to 4", this::widths);
        due.sentence("1. THE LIGHT: a cosine u / v, v 1 to 25, u - v to v", this::everyLight);
        due.sentence("1. THE LIGHT (0 / 1 at first)", this::lightAtFirst);
    }

    private void promises() {
        due.sentence("1: Two STACKS without LAYERS, no PANES.", this::newObject);
        due.sentence("2: AIR (what 0) or GROUND (1) of a STACK.", this::airAndGround);
        due.sentence("2: IllegalArgumentException: another what", this::edgeWhat);
        due.sentence("2: IllegalArgumentException: an INDEX that is none", this::refusedEdge);
        due.sentence("3: at place i (0 to how many there are; those from there on go behind it)", this::everyPlace);
        due.sentence("3: NONE: there are 6.", this::noSeventhLayer);
        due.sentence("3: IllegalArgumentException: no such INDEX, WIDTH", this::refusedLayer);
        due.sentence("3: IllegalArgumentException: no such place", this::noSuchPlace);
        due.sentence("4: The i-th LAYER goes: how many are left.", this::everyDrop);
        due.sentence("4: how many are left. (none)", this::downToNone);
        due.sentence("4: NoSuchElementException: there is none such.", this::noSuchDrop);
        due.sentence("5: (in lowest terms)", this::everyIndexInLowestTerms);
        due.sentence("5: NoSuchElementException: there is none such.", this::everyAbout);
        due.sentence("6: its LAYERS in the other order, AIR and GROUND changed.", this::everyTurn);
        due.sentence("7: The other STACK becomes like this one.", this::everyCopy);
        due.sentence("7: The other STACK becomes like this one. (then each goes its own way)", this::copiesApart);
        due.sentence("8: IllegalArgumentException: it is none.", this::farLights);
    }

    public static void main(String[] args) {
        StackBoundariesTest test = new StackBoundariesTest();
        test.terms();
        test.promises();
        test.due.end();
    }
}
