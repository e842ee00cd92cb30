import java.math.BigInteger;
import java.util.ArrayList;
import java.util.List;
import java.util.NoSuchElementException;

/** The document's words taken as they stand, with fractions of BigInteger: what GlassStack is held against. */
final class Oracle {
    record Ratio(BigInteger up, BigInteger low) {
        static final Ratio ZERO = of(0, 1);
        static final Ratio ONE = of(1, 1);

        static Ratio of(long up, long low) {
            return of(BigInteger.valueOf(up), BigInteger.valueOf(low));
        }

        static Ratio of(BigInteger up, BigInteger low) {
            BigInteger g = up.gcd(low);
            if (low.signum() < 0) {
                g = g.negate();
            }
            return new Ratio(up.divide(g), low.divide(g));
        }

        Ratio plus(Ratio o) {
            return of(up.multiply(o.low).add(o.up.multiply(low)), low.multiply(o.low));
        }

        Ratio times(Ratio o) {
            return of(up.multiply(o.up), low.multiply(o.low));
        }

        Ratio over(Ratio o) {
            return of(up.multiply(o.low), low.multiply(o.up));
        }

        Ratio minus(Ratio o) {
            return plus(of(o.up.negate(), o.low));
        }

        int compare(Ratio o) {
            return up.multiply(o.low).compareTo(o.up.multiply(low));
        }

        int part(boolean below, int k) {
            BigInteger whole = below ? low : up.abs();
            return whole.shiftRight(30 * k).and(BigInteger.valueOf((1 << 30) - 1)).intValue();
        }
    }

    record Layer(Ratio index, int width) {
    }

    record Pane(Ratio b, Ratio o) {
    }

    private static final class Stack {
        Ratio air = Ratio.ONE;
        Ratio ground = Ratio.ONE;
        List<Layer> layers = new ArrayList<>();
    }

    private final Stack[] stacks = {new Stack(), new Stack()};
    private Ratio cosine = Ratio.ZERO;
    private final List<Ratio> indices = new ArrayList<>();
    private final List<Pane> panes = new ArrayList<>();

    private Stack at(int stack) {
        if (stack < 0 || stack > 1) {
            throw new IndexOutOfBoundsException();
        }
        return stacks[stack];
    }

    private static void legal(boolean is) {
        if (!is) {
            throw new IllegalArgumentException();
        }
    }

    private static boolean within(int x, int least, int most) {
        return x >= least && x <= most;
    }

    private static Ratio index(int up, int below) {
        legal(within(up, 1, 9) && within(below, 1, 9));
        return Ratio.of(up, below);
    }

    int edge(int stack, int what, int up, int below) {
        Stack s = at(stack);
        legal(within(what, 0, 1));
        Ratio n = index(up, below);
        if (what == 0) {
            s.air = n;
        } else {
            s.ground = n;
        }
        return 0;
    }

    int layer(int stack, int i, int up, int below, int width) {
        Stack s = at(stack);
        Ratio n = index(up, below);
        legal(within(width, 1, 4) && within(i, 0, s.layers.size()));
        if (s.layers.size() == 6) {
            return -1;
        }
        s.layers.add(i, new Layer(n, width));
        return s.layers.size();
    }

    int drop(int stack, int i) {
        Stack s = at(stack);
        if (!within(i, 0, s.layers.size() - 1)) {
            throw new NoSuchElementException();
        }
        s.layers.remove(i);
        return s.layers.size();
    }

    int about(int stack, int i, int what) {
        Stack s = at(stack);
        if (i == -1 && what == 0) {
            return s.layers.size();
        }
        if ((i == -2 || i == -3) && within(what, 0, 1)) {
            Ratio n = i == -2 ? s.air : s.ground;
            return (what == 0 ? n.up() : n.low()).intValue();
        }
        if (!within(i, 0, s.layers.size() - 1) || !within(what, 0, 2)) {
            throw new NoSuchElementException();
        }
        Layer l = s.layers.get(i);
        return what == 2 ? l.width() : (what == 0 ? l.index().up() : l.index().low()).intValue();
    }

    int turn(int stack) {
        Stack s = at(stack);
        List<Layer> other = new ArrayList<>();
        for (Layer l : s.layers) {
            other.add(0, l);
        }
        s.layers = other;
        Ratio air = s.air;
        s.air = s.ground;
        s.ground = air;
        return 0;
    }

    int copy(int stack) {
        Stack s = at(stack);
        Stack other = stacks[1 - stack];
        other.air = s.air;
        other.ground = s.ground;
        other.layers = new ArrayList<>(s.layers);
        return 0;
    }

    int light(int u, int v) {
        legal(within(v, 1, 25) && within(u, -v, v));
        cosine = Ratio.of(u, v);
        return 0;
    }

    private static Ratio[] polynomials(Ratio c, int k) {
        Ratio two = Ratio.of(2, 1).times(c);
        Ratio[] t = {Ratio.ONE, c};
        Ratio[] u = {Ratio.ZERO, Ratio.ONE};
        for (int i = 0; i < k; i++) {
            t = new Ratio[] {t[1], two.times(t[1]).minus(t[0])};
            u = new Ratio[] {u[1], two.times(u[1]).minus(u[0])};
        }
        return new Ratio[] {t[0], u[0]};
    }

    private static Ratio[] table(List<Layer> layers, Ratio c) {
        Ratio z = Ratio.ONE.minus(c.times(c));
        Ratio[] x = {Ratio.ONE, Ratio.ZERO, Ratio.ZERO, Ratio.ONE};
        for (Layer l : layers) {
            Ratio[] p = polynomials(c, l.width());
            Ratio[] y = {p[0], p[1].over(l.index()), p[1].times(l.index()), p[0]};
            x = new Ratio[] {
                x[0].times(y[0]).minus(z.times(x[1]).times(y[2])),
                x[0].times(y[1]).plus(x[1].times(y[3])),
                x[2].times(y[0]).plus(x[3].times(y[2])),
                x[3].times(y[3]).minus(z.times(x[2]).times(y[1]))};
        }
        return x;
    }

    private static Ratio square(Ratio x) {
        return x.times(x);
    }

    private static Ratio backOf(Stack s, List<Layer> layers, Ratio c) {
        Ratio z = Ratio.ONE.minus(c.times(c));
        Ratio[] x = table(layers, c);
        Ratio aA = s.air.times(x[0]);
        Ratio gD = s.ground.times(x[3]);
        Ratio agB = s.air.times(s.ground).times(x[1]);
        Ratio p = square(aA.minus(gD)).plus(z.times(square(agB.minus(x[2]))));
        Ratio q = square(aA.plus(gD)).plus(z.times(square(agB.plus(x[2]))));
        return p.over(q);
    }

    private static Ratio backOf(Stack s, Ratio c) {
        return backOf(s, s.layers, c);
    }

    int back(int stack, boolean below, int k) {
        Stack s = at(stack);
        legal(within(k, 0, 39));
        return backOf(s, cosine).part(below, k);
    }

    int on(int stack, boolean below, int k) {
        Stack s = at(stack);
        legal(within(k, 0, 39));
        return Ratio.ONE.minus(backOf(s, cosine)).part(below, k);
    }

    int entry(int stack, int entry, boolean below, int k) {
        Stack s = at(stack);
        legal(within(entry, 0, 3) && within(k, 0, 39));
        return table(s.layers, cosine)[entry].part(below, k);
    }

    int sign(int stack, int entry) {
        Stack s = at(stack);
        legal(within(entry, 0, 3));
        return table(s.layers, cosine)[entry].up().signum();
    }

    int stops(int stack) {
        Ratio[] x = table(at(stack).layers, cosine);
        return square(x[0].plus(x[3])).compare(Ratio.of(4, 1)) > 0 ? 1 : 0;
    }

    int less() {
        int order = backOf(stacks[0], cosine).compare(backOf(stacks[1], cosine));
        return order == 0 ? -1 : order < 0 ? 0 : 1;
    }

    int extreme(int stack, int v, boolean least) {
        Stack s = at(stack);
        legal(within(v, 1, 25));
        int best = -v;
        Ratio bestBack = backOf(s, Ratio.of(-v, v));
        for (int u = -v; u <= v; u++) {
            Ratio b = backOf(s, Ratio.of(u, v));
            int order = b.compare(bestBack);
            if (least ? order < 0 : order > 0) {
                best = u;
                bestBack = b;
            }
        }
        return best;
    }

    int same() {
        Stack s = stacks[0];
        Stack o = stacks[1];
        if (s.air.compare(o.air) != 0 || s.ground.compare(o.ground) != 0) {
            return 0;
        }
        for (int j = -49; j <= 49; j++) {
            Ratio c = Ratio.of(j, 49);
            if (backOf(s, c).compare(backOf(o, c)) != 0) {
                return 0;
            }
        }
        return 1;
    }

    int list(int up, int below) {
        Ratio n = index(up, below);
        if (indices.size() == 6 || indices.contains(n)) {
            return -1;
        }
        indices.add(n);
        return indices.size();
    }

    int unlist() {
        indices.clear();
        return 0;
    }

    private void allWays(int n, List<Layer> begun, List<List<Layer>> ways) {
        if (begun.size() == n) {
            ways.add(new ArrayList<>(begun));
            return;
        }
        for (Ratio i : indices) {
            begun.add(new Layer(i, 1));
            allWays(n, begun, ways);
            begun.remove(begun.size() - 1);
        }
    }

    int choose(int stack, int n) {
        Stack s = at(stack);
        legal(within(n, 0, 3));
        if (indices.isEmpty() && n != 0) {
            return -1;
        }
        List<List<Layer>> ways = new ArrayList<>();
        allWays(n, new ArrayList<>(), ways);
        List<Layer> best = null;
        Ratio bestBack = null;
        for (List<Layer> way : ways) {
            Ratio b = backOf(s, way, cosine);
            if (best == null || b.compare(bestBack) < 0) {
                best = way;
                bestBack = b;
            }
        }
        s.layers = new ArrayList<>(best);
        return ways.size();
    }

    int pane(int backUp, int backBelow, int onUp, int onBelow) {
        legal(within(backUp, 0, 100) && within(backBelow, 1, 100) && within(onUp, 0, 100) && within(onBelow, 1, 100));
        Pane p = new Pane(Ratio.of(backUp, backBelow), Ratio.of(onUp, onBelow));
        legal(p.b().plus(p.o()).compare(Ratio.ONE) <= 0);
        if (panes.size() == 8) {
            return -1;
        }
        panes.add(p);
        return panes.size();
    }

    int clear() {
        int were = panes.size();
        panes.clear();
        return were;
    }

    private Ratio[] shares() {
        if (panes.isEmpty()) {
            return new Ratio[] {Ratio.ZERO, Ratio.ZERO, Ratio.ONE};
        }
        Ratio first = panes.get(0).b();
        Ratio last = first;
        Ratio through = panes.get(0).o();
        for (Pane p : panes.subList(1, panes.size())) {
            Ratio rest = Ratio.ONE.minus(last.times(p.b()));
            if (rest.up().signum() == 0) {
                last = p.b();
                through = Ratio.ZERO;
                continue;
            }
            first = first.plus(through.times(through).times(p.b()).over(rest));
            last = p.b().plus(p.o().times(p.o()).times(last).over(rest));
            through = through.times(p.o()).over(rest);
        }
        return new Ratio[] {first, last, through};
    }

    int share(int what, boolean below, int k) {
        legal(within(what, 0, 3) && within(k, 0, 39));
        Ratio[] s = shares();
        Ratio told = what == 3 ? Ratio.ONE.minus(s[0]).minus(s[2]) : s[what];
        return told.part(below, k);
    }
}
