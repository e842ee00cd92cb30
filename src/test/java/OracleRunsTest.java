import java.util.Random;

/** Runs of calls drawn from a fixed seed, each answer held against the Oracle's. */
public final class OracleRunsTest {
    private static final int[] ODD_NUMBERS = {
        Integer.MIN_VALUE, Integer.MIN_VALUE + 1, -101, -26, -10, -4, -3, -2, -1, 0, 1, 2, 3, 4, 5, 6, 7, 8, 9, 10,
        25, 26, 39, 40, 41, 100, 101, 65536, 1 << 30, Integer.MAX_VALUE - 1, Integer.MAX_VALUE};

    private final Due due = new Due();
    private final Random random;
    private GlassStack x;
    private Oracle o;
    private String call;
    private String got;
    private String want;

    private OracleRunsTest(long seed) {
        random = new Random(seed);
    }

    /** Mostly from least to most, now and then a number of which some are outside. */
    private int number(int least, int most) {
        if (random.nextInt(60) == 0) {
            return ODD_NUMBERS[random.nextInt(ODD_NUMBERS.length)];
        }
        return least + random.nextInt(most - least + 1);
    }

    private int stack() {
        return number(0, 1);
    }

    private int part() {
        return random.nextInt(3) == 0 ? number(0, 39) : number(0, 11);
    }

    private void hold(String name, Due.Call mine, Due.Call theirs) {
        call = name;
        got = Due.outcome(mine);
        want = Due.outcome(theirs);
    }

    private void changeStack() {
        int s = stack();
        int i = number(-1, 6);
        int what = number(0, 1);
        int up = number(1, 9);
        int below = number(1, 9);
        int width = number(1, 4);
        int kind = random.nextInt(12);
        if (kind < 2) {
            hold("edge(" + s + ", " + what + ", " + up + ", " + below + ")",
                () -> { x.edge(s, what, up, below); return 0; }, () -> o.edge(s, what, up, below));
        } else if (kind < 8) {
            hold("layer(" + s + ", " + i + ", " + up + ", " + below + ", " + width + ")",
                () -> x.layer(s, i, up, below, width), () -> o.layer(s, i, up, below, width));
        } else if (kind < 10) {
            hold("drop(" + s + ", " + i + ")", () -> x.drop(s, i), () -> o.drop(s, i));
        } else if (kind < 11) {
            hold("turn(" + s + ")", () -> { x.turn(s); return 0; }, () -> o.turn(s));
        } else {
            hold("copy(" + s + ")", () -> { x.copy(s); return 0; }, () -> o.copy(s));
        }
    }

    private void changeLight() {
        int v = number(1, 25);
        int u = v < 1 || v > 25 ? number(-1, 1) : number(-v, v);
        hold("light(" + u + ", " + v + ")", () -> { x.light(u, v); return 0; }, () -> o.light(u, v));
    }

    private void askStack() {
        int s = stack();
        int k = part();
        boolean below = random.nextBoolean();
        int entry = number(0, 3);
        int i = number(-3, 6);
        int what = number(0, 2);
        switch (random.nextInt(6)) {
            case 0 -> hold("back(" + s + ", " + below + ", " + k + ")", () -> x.back(s, below, k), () -> o.back(s, below, k));
            case 1 -> hold("on(" + s + ", " + below + ", " + k + ")", () -> x.on(s, below, k), () -> o.on(s, below, k));
            case 2 -> hold("entry(" + s + ", " + entry + ", " + below + ", " + k + ")",
                () -> x.entry(s, entry, below, k), () -> o.entry(s, entry, below, k));
            case 3 -> hold("sign(" + s + ", " + entry + ")", () -> x.sign(s, entry), () -> o.sign(s, entry));
            case 4 -> hold("stops(" + s + ")", () -> x.stops(s) ? 1 : 0, () -> o.stops(s));
            default -> hold("about(" + s + ", " + i + ", " + what + ")", () -> x.about(s, i, what), () -> o.about(s, i, what));
        }
    }

    private void askBoth() {
        int s = stack();
        int v = number(1, 25);
        boolean least = random.nextBoolean();
        switch (random.nextInt(4)) {
            case 0 -> hold("less()", () -> x.less(), () -> o.less());
            case 1 -> hold("same()", () -> x.same() ? 1 : 0, () -> o.same());
            default -> hold("extreme(" + s + ", " + v + ", " + least + ")",
                () -> x.extreme(s, v, least), () -> o.extreme(s, v, least));
        }
    }

    private void useList() {
        int s = stack();
        int up = number(1, 9);
        int below = number(1, 9);
        int n = number(0, 3);
        int kind = random.nextInt(12);
        if (kind < 8) {
            hold("list(" + up + ", " + below + ")", () -> x.list(up, below), () -> o.list(up, below));
        } else if (kind < 9) {
            hold("unlist()", () -> { x.unlist(); return 0; }, () -> o.unlist());
        } else {
            hold("choose(" + s + ", " + n + ")", () -> x.choose(s, n), () -> o.choose(s, n));
        }
    }

    private void addPane() {
        int backBelow = number(1, 100);
        int onBelow = number(1, 100);
        int backUp = backBelow < 1 || backBelow > 100 ? 1 : number(0, random.nextInt(4) == 0 ? 100 : backBelow);
        // Mostly what is left, or nothing, so that many panes keep nothing and many send nothing on.
        int kind = random.nextInt(6);
        int sameBelow = kind < 2 ? backBelow : onBelow;
        int onUp = kind < 2 ? backBelow - backUp : kind == 2 ? 0 : number(0, 100);
        hold("pane(" + backUp + ", " + backBelow + ", " + onUp + ", " + sameBelow + ")",
            () -> x.pane(backUp, backBelow, onUp, sameBelow), () -> o.pane(backUp, backBelow, onUp, sameBelow));
    }

    private void usePanes() {
        int what = number(0, 3);
        boolean below = random.nextBoolean();
        int k = part();
        int kind = random.nextInt(30);
        if (kind < 12) {
            addPane();
        } else if (kind < 14) {
            hold("pane(1, 1, 0, 1)", () -> x.pane(1, 1, 0, 1), () -> o.pane(1, 1, 0, 1));
        } else if (kind < 15) {
            hold("clear()", () -> x.clear(), () -> o.clear());
        } else {
            hold("share(" + what + ", " + below + ", " + k + ")", () -> x.share(what, below, k), () -> o.share(what, below, k));
        }
    }

    private void step() {
        int kind = random.nextInt(100);
        if (kind < 30) {
            changeStack();
        } else if (kind < 40) {
            changeLight();
        } else if (kind < 65) {
            askStack();
        } else if (kind < 70) {
            askBoth();
        } else if (kind < 78) {
            useList();
        } else {
            usePanes();
        }
    }

    private void run(int run, int calls) {
        x = new GlassStack();
        o = new Oracle();
        for (int i = 0; i < calls; i++) {
            step();
            due.equal("run " + run + ", call " + i + ": " + call, got, want);
            if (!got.equals(want)) {
                return;
            }
        }
    }

    public static void main(String[] args) {
        int runs = args.length > 0 ? Integer.parseInt(args[0]) : 300;
        long seed = args.length > 1 ? Long.parseLong(args[1]) : 20261116;
        OracleRunsTest test = new OracleRunsTest(seed);
        for (int run = 0; run < runs; run++) {
            test.run(run, 512);
        }
        test.due.end();
    }
}
