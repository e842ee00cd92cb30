import java.math.BigInteger;
import java.util.function.IntConsumer;

/**
 * What the tests have in common. Only an object's first 512 calls are promised: tests that ask much
 * make a new object for each question.
 */
abstract class Checks {
    static final int LEAST = Integer.MIN_VALUE;
    static final int MOST = Integer.MAX_VALUE;
    static final int[] NO_STACKS = {LEAST, -2, -1, 2, 3, MOST};
    static final int PARTS = 40;

    interface Part {
        int at(boolean below, int k);
    }

    final Due due = new Due();

    /** Each number from least to most is taken; those next to them, and far ones, are refused. */
    final void range(String name, int least, int most, String refusal, IntConsumer call) {
        for (int n = least; n <= most; n++) {
            int number = n;
            due.nothing(name + " " + n, () -> call.accept(number));
        }
        // The last four are within the range if only their lowest 8 or 16 bits are looked at.
        int[] outside = {LEAST, LEAST + 1, least - 2, least - 1, most + 1, most + 2, MOST - 1, MOST,
            least + (1 << 8), most - (1 << 8), least + (1 << 16), most - (1 << 16)};
        for (int n : outside) {
            if (n < least || n > most) {
                due.equal(name + " " + n, Due.outcome(() -> call.accept(n)), refusal);
            }
        }
    }

    /** All 40 parts of both wholes. */
    final void fraction(String name, Part part, BigInteger up, BigInteger below) {
        due.equal("upper of " + name, whole(part, false).toString(), up.toString());
        due.equal("lower of " + name, whole(part, true).toString(), below.toString());
    }

    final void fraction(String name, Part part, long up, long below) {
        fraction(name, part, BigInteger.valueOf(up), BigInteger.valueOf(below));
    }

    static BigInteger whole(Part part, boolean below) {
        BigInteger sum = BigInteger.ZERO;
        for (int k = PARTS - 1; k >= 0; k--) {
            sum = sum.shiftLeft(30).add(BigInteger.valueOf(part.at(below, k)));
        }
        return sum;
    }

    final void back(GlassStack x, int stack, int up, int below) {
        due.equal("upper of back(" + stack + ")", x.back(stack, false, 0), up);
        due.equal("lower of back(" + stack + ")", x.back(stack, true, 0), below);
    }

    final void on(GlassStack x, int stack, int up, int below) {
        due.equal("upper of on(" + stack + ")", x.on(stack, false, 0), up);
        due.equal("lower of on(" + stack + ")", x.on(stack, true, 0), below);
    }

    final void entry(GlassStack x, int entry, int sign, int up, int below) {
        due.equal("sign(0, " + entry + ")", x.sign(0, entry), sign);
        due.equal("upper of entry(0, " + entry + ")", x.entry(0, entry, false, 0), up);
        due.equal("lower of entry(0, " + entry + ")", x.entry(0, entry, true, 0), below);
    }

    final void share(GlassStack x, int what, int up, int below) {
        due.equal("upper of share(" + what + ")", x.share(what, false, 0), up);
        due.equal("lower of share(" + what + ")", x.share(what, true, 0), below);
    }

    /** F, L, O and the rest, each by its upper and its lower part. */
    final void shares(GlassStack x, int... want) {
        for (int what = 0; what < 4; what++) {
            share(x, what, want[2 * what], want[2 * what + 1]);
        }
    }

    final void edges(GlassStack x, int stack, int airUp, int airBelow, int groundUp, int groundBelow) {
        due.equal("about(" + stack + ", -2, 0)", x.about(stack, -2, 0), airUp);
        due.equal("about(" + stack + ", -2, 1)", x.about(stack, -2, 1), airBelow);
        due.equal("about(" + stack + ", -3, 0)", x.about(stack, -3, 0), groundUp);
        due.equal("about(" + stack + ", -3, 1)", x.about(stack, -3, 1), groundBelow);
    }

    /** The layers as numbers of three digits: upper part, lower part, width. */
    final void layers(GlassStack x, int stack, int... want) {
        due.equal("about(" + stack + ", -1, 0)", x.about(stack, -1, 0), want.length);
        for (int i = 0; i < want.length && i < x.about(stack, -1, 0); i++) {
            int got = 100 * x.about(stack, i, 0) + 10 * x.about(stack, i, 1) + x.about(stack, i, 2);
            due.equal("layer " + i + " of stack " + stack, got, want[i]);
        }
    }

    static void add(GlassStack x, int stack, int... layers) {
        for (int layer : layers) {
            x.layer(stack, x.about(stack, -1, 0), layer / 100, layer / 10 % 10, layer % 10);
        }
    }

    static GlassStack withLayers(int... layers) {
        GlassStack x = new GlassStack();
        add(x, 0, layers);
        return x;
    }

    static GlassStack at(int u, int v, int... layers) {
        GlassStack x = withLayers(layers);
        x.light(u, v);
        return x;
    }
}
