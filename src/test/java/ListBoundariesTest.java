import java.util.Arrays;

/** The boundary cases of promises 17 to 19: a test for each sentence that names one. */
public final class ListBoundariesTest extends Checks {
    private static final int[] SIX = {212, 313, 414, 511, 612, 714};

    private static GlassStack withListed(int many) {
        GlassStack x = new GlassStack();
        for (int i = 0; i < many; i++) {
            x.list(9 - i, 1);
        }
        return x;
    }

    private void howManyItHas() {
        GlassStack x = new GlassStack();
        for (int i = 1; i <= 6; i++) {
            due.equal("list(" + i + ", 7)", x.list(i, 7), i);
        }
    }

    private void noSeventh() {
        GlassStack x = withListed(6);
        for (int up = 1; up <= 9; up++) {
            for (int below = 1; below <= 9; below++) {
                due.equal("list(" + up + ", " + below + ") with 6", x.list(up, below), GlassStack.NONE);
            }
        }
        due.equal("choose(0, 2) of the 6", x.choose(0, 2), 36);
        due.equal("choose(0, 3) of the 6", x.choose(0, 3), 216);
    }

    private void fiveAndOneMore() {
        GlassStack x = withListed(5);
        due.equal("one of the 5", x.list(5, 1), GlassStack.NONE);
        due.equal("choose(0, 1) of the 5", x.choose(0, 1), 5);
        due.equal("a sixth", x.list(1, 9), 6);
        due.equal("a seventh", x.list(1, 8), GlassStack.NONE);
        due.equal("choose(0, 1) of the 6", x.choose(0, 1), 6);
    }

    private void thisOneAlready() {
        for (int up = 1; up <= 9; up++) {
            for (int below = 1; below <= 9; below++) {
                GlassStack x = new GlassStack();
                x.list(up, below);
                int came = 1;
                for (int otherUp = 1; otherUp <= 9; otherUp++) {
                    int otherBelow = 10 - otherUp;
                    boolean alike = up * otherBelow == otherUp * below;
                    int want = alike || came == 6 ? GlassStack.NONE : came + 1;
                    due.equal("list(" + otherUp + ", " + otherBelow + ") behind " + up + " by " + below,
                        x.list(otherUp, otherBelow), want);
                    came = want == GlassStack.NONE ? came : want;
                }
            }
        }
        GlassStack x = new GlassStack();
        due.equal("list(1, 1)", x.list(1, 1), 1);
        for (int n = 1; n <= 9; n++) {
            due.equal("list(" + n + ", " + n + ")", x.list(n, n), GlassStack.NONE);
        }
        due.equal("list(1, 2)", x.list(1, 2), 2);
        due.equal("list(4, 8)", x.list(4, 8), GlassStack.NONE);
        due.equal("list(2, 1), the other way up", x.list(2, 1), 3);
    }

    private void listedAreIndices() {
        range("list's upper part", 1, 9, Due.ILLEGAL, up -> new GlassStack().list(up, 9));
        range("list's lower part", 1, 9, Due.ILLEGAL, below -> new GlassStack().list(9, below));
        int[][] wrong = {{0, 1}, {10, 1}, {1, 0}, {1, 10}, {0, 0}, {10, 10}, {-1, -1}, {LEAST, LEAST}};
        for (int[] index : wrong) {
            GlassStack x = withListed(3);
            due.illegal("list(" + index[0] + ", " + index[1] + ")", () -> x.list(index[0], index[1]));
            due.equal("the list has 3 still", x.list(1, 9), 4);
        }
    }

    private void emptied() {
        for (int many = 0; many <= 6; many++) {
            GlassStack x = withListed(many);
            x.unlist();
            due.equal("choose(0, 1) of none, " + many + " before", x.choose(0, 1), GlassStack.NONE);
            x.unlist();
            for (int i = 1; i <= 6; i++) {
                due.equal("list(" + (10 - i) + ", 1) again", x.list(10 - i, 1), i);
            }
            due.equal("a seventh", x.list(1, 9), GlassStack.NONE);
        }
    }

    private void unlistLeavesTheLayers() {
        GlassStack x = withListed(1);
        x.choose(0, 3);
        x.pane(1, 2, 1, 2);
        x.unlist();
        layers(x, 0, 911, 911, 911);
        due.equal("the panes stay", x.clear(), 1);
    }

    private void howManyLayers() {
        range("choose's n", 0, 3, Due.ILLEGAL, n -> withListed(2).choose(0, n));
        range("choose's n of six", 0, 3, Due.ILLEGAL, n -> withListed(6).choose(1, n));
        range("choose's n without a list", 0, 3, Due.ILLEGAL, n -> new GlassStack().choose(0, n));
        for (int n : new int[] {LEAST, -1, 4, MOST}) {
            GlassStack x = withListed(2);
            add(x, 0, SIX);
            due.illegal("choose(0, " + n + ")", () -> x.choose(0, n));
            layers(x, 0, SIX);
        }
    }

    private void howManyLookedAt() {
        for (int many = 1; many <= 6; many++) {
            int ways = 1;
            for (int n = 0; n <= 3; n++) {
                GlassStack x = withListed(many);
                due.equal("choose(1, " + n + ") of " + many, x.choose(1, n), ways);
                due.equal("its layers", x.about(1, -1, 0), n);
                ways *= many;
            }
        }
    }

    private void emptyList() {
        for (int n = 1; n <= 3; n++) {
            GlassStack x = at(1, 3, SIX);
            x.edge(0, 0, 2, 3);
            x.edge(0, 1, 5, 1);
            add(x, 1, 111);
            due.equal("choose(0, " + n + ")", x.choose(0, n), GlassStack.NONE);
            due.equal("choose(1, " + n + ")", x.choose(1, n), GlassStack.NONE);
            layers(x, 0, SIX);
            edges(x, 0, 2, 3, 5, 1);
            layers(x, 1, 111);
            due.equal("the light stays", x.entry(1, 0, true, 0), 3);
        }
        GlassStack unlisted = withListed(6);
        add(unlisted, 0, 212);
        unlisted.unlist();
        due.equal("choose(0, 3) after unlist()", unlisted.choose(0, 3), GlassStack.NONE);
        layers(unlisted, 0, 212);
    }

    private void noLayersChosen() {
        for (int many = 0; many <= 6; many += 6) {
            for (int stack = 0; stack < 2; stack++) {
                GlassStack x = withListed(many);
                add(x, 0, SIX);
                add(x, 1, SIX);
                x.edge(stack, 1, 3, 2);
                due.equal("choose(" + stack + ", 0)", x.choose(stack, 0), 1);
                layers(x, stack);
                edges(x, stack, 1, 1, 3, 2);
                layers(x, 1 - stack, SIX);
                back(x, stack, 1, 25);
            }
        }
    }

    private void inPlaceOfItsOwn() {
        for (int n = 1; n <= 3; n++) {
            for (int own = 0; own <= 6; own++) {
                GlassStack x = new GlassStack();
                add(x, 1, Arrays.copyOf(SIX, own));
                add(x, 0, SIX);
                x.edge(1, 0, 7, 9);
                x.edge(1, 1, 8, 9);
                x.list(6, 4);
                due.equal("choose(1, " + n + ") of one", x.choose(1, n), 1);
                layers(x, 1, Arrays.copyOf(new int[] {321, 321, 321}, n));
                edges(x, 1, 7, 9, 8, 9);
                layers(x, 0, SIX);
            }
        }
    }

    private void ofLikeOnesTheFirst() {
        // At - 1 and 1 all are alike.
        for (int u = -1; u <= 1; u += 2) {
            for (int n = 1; n <= 3; n++) {
                GlassStack x = withListed(6);
                x.light(u, 1);
                x.choose(0, n);
                layers(x, 0, Arrays.copyOf(new int[] {911, 911, 911}, n));
            }
        }
        // At 0 nothing goes back to 1 from 4 where the second index is twice the first: of (1, 2),
        // (2, 4) and (4, 8) the first LAYER's number tells.
        chosen(new int[] {81, 11, 21, 41}, 11, 21);
        chosen(new int[] {81, 41, 21, 11}, 41, 81);
        chosen(new int[] {21, 81, 41, 11}, 21, 41);
        chosen(new int[] {11, 41, 21, 81}, 11, 21);
        // Nothing goes back from 1 where the first times the third is the second: the second
        // LAYER's number tells ahead of the third's.
        GlassStack three = new GlassStack();
        three.list(2, 1);
        three.list(6, 1);
        three.list(4, 1);
        three.list(3, 1);
        due.equal("choose(0, 3)", three.choose(0, 3), 64);
        layers(three, 0, 211, 611, 311);
    }

    /** The two layers chosen between 1 and 4 at 0, by indices of two digits. */
    private void chosen(int[] indices, int first, int second) {
        GlassStack x = new GlassStack();
        x.edge(0, 1, 4, 1);
        for (int index : indices) {
            x.list(index / 10, index % 10);
        }
        due.equal("choose(0, 2)", x.choose(0, 2), indices.length * indices.length);
        layers(x, 0, 10 * first + 1, 10 * second + 1);
        back(x, 0, 0, 1);
    }

    private void theLastOfAll() {
        // Between 1 and 9 at 0 3 alone sends nothing back: found at the list's last place too.
        for (int place = 0; place < 6; place++) {
            GlassStack x = new GlassStack();
            x.edge(0, 1, 9, 1);
            for (int i = 0; i < 6; i++) {
                x.list(i == place ? 3 : 4 + (i < 5 ? i : place), 1);
            }
            due.equal("choose(0, 1)", x.choose(0, 1), 6);
            layers(x, 0, 311);
        }
        // Layers of both edges' index send nothing back: the very last of all.
        for (int n = 1; n <= 3; n++) {
            GlassStack last = withListed(5);
            last.light(1, 3);
            last.list(1, 1);
            last.choose(0, n);
            layers(last, 0, Arrays.copyOf(new int[] {111, 111, 111}, n));
        }
    }

    private void atTheLight() {
        // 2 is best between 1 and 4 at 0; at 1 both are alike.
        GlassStack x = new GlassStack();
        x.edge(0, 1, 4, 1);
        x.list(4, 1);
        x.list(2, 1);
        x.choose(0, 1);
        layers(x, 0, 211);
        x.light(1, 1);
        x.choose(0, 1);
        layers(x, 0, 411);
    }

    private void promises() {
        due.sentence("17: An INDEX comes to THE LIST: how many it has.", this::howManyItHas);
        due.sentence("17: NONE: it has 6", this::noSeventh);
        due.sentence("17: NONE: it has 6, or this one. (5 of them)", this::fiveAndOneMore);
        due.sentence("17: NONE: or this one", this::thisOneAlready);
        due.sentence("17: IllegalArgumentException: it is none.", this::listedAreIndices);
        due.sentence("18: THE LIST is empty.", this::emptied);
        due.sentence("18: THE LIST is empty. (and nothing else)", this::unlistLeavesTheLayers);
        due.sentence("19: The STACK gets n LAYERS (0 to 3)", this::noLayersChosen);
        due.sentence("19: of THE LIST's INDICES, WIDTH 1, in place of its own", this::inPlaceOfItsOwn);
        due.sentence("19: with the least BACK", this::theLastOfAll);
        due.sentence("19: at THE LIGHT", this::atTheLight);
        due.sentence("19: of like ones the first by the LIST's numbers, the first LAYER's first", this::ofLikeOnesTheFirst);
        due.sentence("19: how many were looked at", this::howManyLookedAt);
        due.sentence("19: NONE, and nothing changes: THE LIST is empty, and n isn't 0.", this::emptyList);
        due.sentence("19: IllegalArgumentException: n is not 0 to 3.", this::howManyLayers);
    }

    public static void main(String[] args) {
        ListBoundariesTest test = new ListBoundariesTest();
        test.promises();
        test.due.end();
    }
}
