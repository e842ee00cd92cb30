/**
 * The longest fractions that can come, all 40 parts of each, held against the Oracle's; a new object
 * for each question, since only the first 512 calls are promised.
 */
public final class LargestTest {
    private static final int[][] LIGHTS = {{0, 1}, {1, 25}, {-24, 25}, {12, 23}, {25, 25}, {-11, 24}, {7, 9}};
    private static final int[][] STACKS = {
        {9, 8, 8, 9, 9, 8, 8, 9, 9, 8, 8, 9, 9, 8, 8, 9},
        {9, 1, 1, 9, 9, 1, 1, 9, 9, 1, 1, 9, 9, 1, 1, 9},
        {7, 9, 9, 7, 8, 7, 5, 8, 7, 6, 9, 5, 4, 9, 8, 5},
        {9, 7, 9, 7, 9, 7, 9, 7, 9, 7, 9, 7, 9, 7, 9, 7}};
    private static final int[][] PANES = {
        {96, 97, 1, 97}, {1, 97, 88, 89}, {50, 99, 49, 99}, {82, 83, 1, 100}, {1, 2, 1, 2}, {78, 79, 1, 83}, {99, 100, 1, 100}};

    private final Due due = new Due();
    private GlassStack x = new GlassStack();
    private Oracle o = new Oracle();

    private void build(int[] indices, int width) {
        x = new GlassStack();
        o = new Oracle();
        for (int i = 0; i < 6; i++) {
            due.equal("layer", x.layer(0, i, indices[2 * i], indices[2 * i + 1], width),
                o.layer(0, i, indices[2 * i], indices[2 * i + 1], width));
        }
        for (int what = 0; what < 2; what++) {
            x.edge(0, what, indices[12 + 2 * what], indices[13 + 2 * what]);
            o.edge(0, what, indices[12 + 2 * what], indices[13 + 2 * what]);
        }
    }

    private void tell(String name, boolean below) {
        for (int k = 0; k < 40; k++) {
            String call = name + ", " + below + ", " + k;
            due.equal("back " + call, x.back(0, below, k), o.back(0, below, k));
            due.equal("on " + call, x.on(0, below, k), o.on(0, below, k));
            for (int entry = 0; entry < 4; entry++) {
                due.equal("entry " + entry + " " + call, x.entry(0, entry, below, k), o.entry(0, entry, below, k));
            }
        }
    }

    private void light(int number, int width, int u, int v) {
        build(STACKS[number], width);
        x.light(u, v);
        o.light(u, v);
    }

    private void stack(int number, int width) {
        for (int[] light : LIGHTS) {
            String name = "of stack " + number + ", width " + width + ", at " + light[0] + " / " + light[1];
            light(number, width, light[0], light[1]);
            tell(name, false);
            light(number, width, light[0], light[1]);
            tell(name, true);
            for (int entry = 0; entry < 4; entry++) {
                due.equal("sign " + entry + name, x.sign(0, entry), o.sign(0, entry));
            }
            due.equal("stops " + name, x.stops(0) ? 1 : 0, o.stops(0));
        }
        due.equal("least", x.extreme(0, 25, true), o.extreme(0, 25, true));
        due.equal("greatest", x.extreme(0, 25, false), o.extreme(0, 25, false));
        x.copy(0);
        o.copy(0);
        due.equal("same as its copy", x.same() ? 1 : 0, o.same());
        x.turn(1);
        o.turn(1);
        due.equal("same as turned", x.same() ? 1 : 0, o.same());
        due.equal("less of both", x.less(), o.less());
    }

    private void panes() {
        for (int[] pane : PANES) {
            x = new GlassStack();
            o = new Oracle();
            for (int i = 0; i < 8; i++) {
                int[] p = i % 3 == 2 ? PANES[1] : pane;
                due.equal("pane", x.pane(p[0], p[1], p[2], p[3]), o.pane(p[0], p[1], p[2], p[3]));
            }
            for (int what = 0; what < 4; what++) {
                for (int k = 0; k < 40; k++) {
                    due.equal("share " + what + ", false, " + k, x.share(what, false, k), o.share(what, false, k));
                    due.equal("share " + what + ", true, " + k, x.share(what, true, k), o.share(what, true, k));
                }
            }
            due.equal("clear()", x.clear(), o.clear());
        }
    }

    public static void main(String[] args) {
        LargestTest test = new LargestTest();
        for (int number = 0; number < STACKS.length; number++) {
            test.stack(number, 4);
            test.stack(number, 3);
        }
        test.panes();
        test.due.end();
    }
}
