import java.math.BigInteger;

/** The boundary cases of term 3 and of promises 20 to 22: a test for each sentence that names one. */
public final class PaneBoundariesTest extends Checks {
    private static final String[] WHATS = {"F", "L", "O", "1 less F less O"};

    /** Panes of four numbers each. */
    private static GlassStack withPanes(int... numbers) {
        GlassStack x = new GlassStack();
        for (int i = 0; i + 3 < numbers.length; i += 4) {
            x.pane(numbers[i], numbers[i + 1], numbers[i + 2], numbers[i + 3]);
        }
        return x;
    }

    private static GlassStack clearPanes(int many) {
        GlassStack x = new GlassStack();
        for (int i = 0; i < many; i++) {
            x.pane(0, 1, 1, 1);
        }
        return x;
    }

    private void eightPanes() {
        GlassStack x = new GlassStack();
        for (int i = 1; i <= 8; i++) {
            due.equal("pane " + i, x.pane(1, 2, 1, 2), i);
        }
        // Of n panes of a half each n by n + 1 goes back.
        shares(x, 8, 9, 8, 9, 1, 9, 0, 1);
    }

    private void noNinthPane() {
        GlassStack x = new GlassStack();
        for (int i = 0; i < 8; i++) {
            x.pane(1, 2, 1, 2);
        }
        due.equal("a ninth", x.pane(1, 2, 1, 2), GlassStack.NONE);
        due.equal("a ninth that sends all on", x.pane(0, 1, 1, 1), GlassStack.NONE);
        due.equal("a ninth that keeps all", x.pane(0, 1, 0, 1), GlassStack.NONE);
        due.equal("a ninth that sends all back", x.pane(1, 1, 0, 1), GlassStack.NONE);
        shares(x, 8, 9, 8, 9, 1, 9, 0, 1);
        due.equal("clear()", x.clear(), 8);
        due.equal("the first again", x.pane(1, 2, 1, 2), 1);
    }

    private void shareParts() {
        range("back's upper part, by 100,", 0, 100, Due.ILLEGAL, up -> new GlassStack().pane(up, 100, 0, 100));
        range("on's upper part, by 100,", 0, 100, Due.ILLEGAL, up -> new GlassStack().pane(0, 100, up, 100));
        range("back's lower part", 1, 100, Due.ILLEGAL, below -> new GlassStack().pane(0, below, 0, 1));
        range("on's lower part", 1, 100, Due.ILLEGAL, below -> new GlassStack().pane(0, 1, 0, below));
        range("both lower parts", 1, 100, Due.ILLEGAL, below -> new GlassStack().pane(1, below, 0, below));
    }

    /** Of every o by the lower part told, the greatest that is taken and the first that is not. */
    private void atMostOneTogether() {
        int[] belows = {1, 2, 3, 7, 50, 97, 99, 100};
        for (int backBelow : belows) {
            for (int backUp = 0; backUp <= backBelow; backUp++) {
                for (int onBelow : belows) {
                    int most = (backBelow - backUp) * onBelow / backBelow;
                    GlassStack x = new GlassStack();
                    String name = backUp + " by " + backBelow + " with by " + onBelow + ": ";
                    int up = backUp;
                    due.equal(name + most, Due.outcome(() -> x.pane(up, backBelow, most, onBelow)), "1");
                    due.illegal(name + (most + 1), () -> x.pane(up, backBelow, most + 1, onBelow));
                    due.equal("clear()", x.clear(), 1);
                }
            }
        }
    }

    private void oneAndNextToIt() {
        due.equal("1/3 and 66/99", withPanes().pane(1, 3, 66, 99), 1);
        due.equal("33/99 and 2/3", withPanes().pane(33, 99, 2, 3), 1);
        due.equal("98/99 and 1/100: 9899 / 9900", withPanes().pane(98, 99, 1, 100), 1);
        due.illegal("1/99 and 99/100: 9901 / 9900", () -> withPanes().pane(1, 99, 99, 100));
        due.illegal("99/100 and 1/99: 9901 / 9900", () -> withPanes().pane(99, 100, 1, 99));
        due.equal("1 and 0", withPanes().pane(100, 100, 0, 100), 1);
        due.equal("0 and 1", withPanes().pane(0, 100, 100, 100), 1);
        due.equal("0 and 0", withPanes().pane(0, 100, 0, 100), 1);
        due.illegal("1 and 1/100", () -> withPanes().pane(1, 1, 1, 100));
        due.illegal("1/100 and 1", () -> withPanes().pane(1, 100, 1, 1));
        due.illegal("1 and 1", () -> withPanes().pane(1, 1, 1, 1));
        due.illegal("100/99 and 0", () -> withPanes().pane(100, 99, 0, 1));
        due.illegal("0 and 100/99", () -> withPanes().pane(0, 1, 100, 99));
        due.illegal("100 and 0", () -> withPanes().pane(100, 1, 0, 1));
        due.illegal("100 and 100", () -> withPanes().pane(100, 1, 100, 1));
        due.illegal("2 and -1", () -> withPanes().pane(2, 1, -1, 1));
        due.illegal("-1 and 1", () -> withPanes().pane(-1, 1, 1, 1));
        due.illegal("0 by - 1 and 0", () -> withPanes().pane(0, -1, 0, 1));
    }

    private void farShares() {
        // 65536 times 65536 is 0 in an int.
        int[] far = {LEAST, LEAST + 1, -65536, -256, 256, 357, 65536, 65537, 1 << 30, MOST};
        for (int n : far) {
            GlassStack x = withPanes(1, 2, 1, 4);
            due.illegal("pane(" + n + ", 1, 0, 1)", () -> x.pane(n, 1, 0, 1));
            due.illegal("pane(0, 1, " + n + ", 1)", () -> x.pane(0, 1, n, 1));
            due.illegal("pane(0, " + n + ", 0, 1)", () -> x.pane(0, n, 0, 1));
            due.illegal("pane(0, 1, 0, " + n + ")", () -> x.pane(0, 1, 0, n));
            due.illegal("pane(" + n + ", " + n + ", 0, 1)", () -> x.pane(n, n, 0, 1));
            due.illegal("pane of " + n + " four times", () -> x.pane(n, n, n, n));
            shares(x, 1, 2, 1, 2, 1, 4, 1, 4);
            due.equal("clear()", x.clear(), 1);
        }
    }

    private void firstPane() {
        shares(withPanes(3, 7, 2, 5), 3, 7, 3, 7, 2, 5, 6, 35);
        shares(withPanes(0, 1, 0, 1), 0, 1, 0, 1, 0, 1, 1, 1);
        shares(withPanes(0, 100, 100, 100), 0, 1, 0, 1, 1, 1, 0, 1);
        shares(withPanes(100, 100, 0, 100), 1, 1, 1, 1, 0, 1, 0, 1);
        shares(withPanes(50, 100, 20, 80), 1, 2, 1, 2, 1, 4, 1, 4);
        shares(withPanes(1, 100, 99, 100), 1, 100, 1, 100, 99, 100, 0, 1);
    }

    private void onePaneMore() {
        // 1 - L b is 5/6: F is 1/2 and 1/16 * 1/3 * 6/5, L is 1/3 and 1/4 * 1/2 * 6/5, O is 1/8 * 6/5.
        shares(withPanes(1, 2, 1, 4, 1, 3, 1, 2), 21, 40, 29, 60, 3, 20, 13, 40);
        shares(withPanes(1, 3, 1, 2, 1, 2, 1, 4), 29, 60, 21, 40, 3, 20, 11, 30);
        shares(withPanes(0, 1, 0, 1, 1, 1, 0, 1), 0, 1, 1, 1, 0, 1, 1, 1);
        shares(withPanes(0, 1, 1, 1, 1, 1, 0, 1), 1, 1, 1, 1, 0, 1, 0, 1);
        shares(withPanes(0, 1, 1, 1, 3, 7, 2, 5), 3, 7, 3, 7, 2, 5, 6, 35);
        shares(withPanes(3, 7, 2, 5, 0, 1, 1, 1), 3, 7, 3, 7, 2, 5, 6, 35);
        shares(withPanes(3, 7, 2, 5, 0, 1, 0, 1), 3, 7, 0, 1, 0, 1, 4, 7);
    }

    private void bothSendAllBack() {
        shares(withPanes(1, 1, 0, 1, 1, 1, 0, 1), 1, 1, 1, 1, 0, 1, 0, 1);
        shares(withPanes(1, 2, 1, 4, 1, 1, 0, 1), 5, 8, 1, 1, 0, 1, 3, 8);
        shares(withPanes(1, 2, 1, 4, 1, 1, 0, 1, 1, 1, 0, 1), 5, 8, 1, 1, 0, 1, 3, 8);
        shares(withPanes(1, 2, 1, 4, 1, 1, 0, 1, 100, 100, 0, 1, 1, 1, 0, 7), 5, 8, 1, 1, 0, 1, 3, 8);
        // What is behind keeps nothing of it: L stays 1, and then again all comes back.
        shares(withPanes(1, 2, 1, 4, 1, 1, 0, 1, 99, 100, 1, 100, 1, 1, 0, 1), 5, 8, 1, 1, 0, 1, 3, 8);
        shares(withPanes(1, 2, 1, 4, 1, 1, 0, 1, 0, 1, 1, 1, 1, 1, 0, 1), 5, 8, 1, 1, 0, 1, 3, 8);
        // Behind both: L is 1/3 and 1/9 by 2/3.
        shares(withPanes(1, 2, 1, 4, 1, 1, 0, 1, 1, 1, 0, 1, 1, 3, 1, 3), 5, 8, 1, 2, 0, 1, 3, 8);
        // All eight.
        GlassStack x = new GlassStack();
        for (int i = 1; i <= 8; i++) {
            due.equal("pane " + i, x.pane(1, 1, 0, 1), i);
            shares(x, 1, 1, 1, 1, 0, 1, 0, 1);
        }
    }

    private void oneOfBothSendsAllBack() {
        // 1 - L b is 1/100: not 0.
        shares(withPanes(1, 1, 0, 1, 99, 100, 0, 1), 1, 1, 99, 100, 0, 1, 0, 1);
        shares(withPanes(99, 100, 0, 1, 1, 1, 0, 1), 99, 100, 1, 1, 0, 1, 1, 100);
        shares(withPanes(99, 100, 1, 100, 1, 1, 0, 1), 1, 1, 1, 1, 0, 1, 0, 1);
        shares(withPanes(1, 1, 0, 1, 99, 100, 1, 100), 1, 1, 1, 1, 0, 1, 0, 1);
        shares(withPanes(99, 100, 1, 100, 99, 100, 1, 100), 198, 199, 198, 199, 1, 199, 0, 1);
    }

    private void howManyThereWere() {
        for (int many = 0; many <= 8; many++) {
            GlassStack x = clearPanes(many);
            due.equal("clear() of " + many, x.clear(), many);
            due.equal("clear() of none", x.clear(), 0);
        }
        GlassStack nine = clearPanes(9);
        due.equal("clear() of eight and one refused", nine.clear(), 8);
    }

    private void allPanesGo() {
        GlassStack x = withPanes(1, 1, 0, 1, 1, 1, 0, 1, 1, 3, 1, 3);
        x.layer(0, 0, 2, 1, 1);
        x.list(3, 1);
        x.clear();
        shares(x, 0, 1, 0, 1, 1, 1, 0, 1);
        due.equal("pane", x.pane(3, 7, 2, 5), 1);
        shares(x, 3, 7, 3, 7, 2, 5, 6, 35);
        layers(x, 0, 211);
        due.equal("the list stays", x.choose(1, 1), 1);
    }

    private void withoutPanes() {
        GlassStack x = new GlassStack();
        int[] ups = {0, 0, 1, 0};
        for (int what = 0; what < 4; what++) {
            int number = what;
            fraction(WHATS[what], (below, k) -> x.share(number, below, k), ups[what], 1);
        }
    }

    private void shareWhats() {
        range("share's what", 0, 3, Due.ILLEGAL, what -> new GlassStack().share(what, false, 0));
        range("share's what, one pane,", 0, 3, Due.ILLEGAL, what -> clearPanes(1).share(what, true, 39));
    }

    private void partsOfShares() {
        for (int what = 0; what < 4; what++) {
            int number = what;
            GlassStack none = new GlassStack();
            range("share's part", 0, 39, Due.ILLEGAL, k -> none.share(number, false, k));
            range("share's part, below,", 0, 39, Due.ILLEGAL, k -> none.share(number, true, k));
            GlassStack eight = clearPanes(8);
            range("share's part of eight", 0, 39, Due.ILLEGAL, k -> eight.share(number, true, k));
        }
    }

    private void whatIsKept() {
        share(withPanes(0, 1, 0, 1), 3, 1, 1);
        share(withPanes(1, 100, 98, 100), 3, 1, 100);
        share(withPanes(98, 99, 1, 100), 3, 1, 9900);
        share(withPanes(1, 3, 66, 99), 3, 0, 1);
        // A pane that keeps nothing ahead of one that keeps all: 1 less b is kept.
        share(withPanes(1, 3, 2, 3, 0, 1, 0, 1), 3, 2, 3);
        share(clearPanes(8), 3, 0, 1);
    }

    private void partsOfThirtyBits() {
        // Nothing back: O is 1 by the product of the lower parts, 64 to the 5, then 2 to the 36 and 48.
        int[] bits = {6, 12, 18, 24, 30, 36, 42, 48};
        for (int many = 1; many <= 8; many++) {
            GlassStack x = new GlassStack();
            for (int i = 0; i < many; i++) {
                x.pane(0, 1, 1, 64);
            }
            BigInteger below = BigInteger.TWO.pow(bits[many - 1]);
            fraction("O", (low, k) -> x.share(2, low, k), BigInteger.ONE, below);
            fraction("1 less F less O", (low, k) -> x.share(3, low, k), below.subtract(BigInteger.ONE), below);
        }
        GlassStack hundreds = new GlassStack();
        for (int i = 0; i < 8; i++) {
            hundreds.pane(0, 100, 1, 100);
        }
        fraction("O", (low, k) -> hundreds.share(2, low, k), BigInteger.ONE, BigInteger.TEN.pow(16));
        fraction("1 less F less O", (low, k) -> hundreds.share(3, low, k),
            BigInteger.TEN.pow(16).subtract(BigInteger.ONE), BigInteger.TEN.pow(16));
    }

    private void terms() {
        due.sentence("3. PANES, from 0 on, at most 8", this::eightPanes);
        due.sentence("3. fractions of 0 to 100 by 1 to 100", this::shareParts);
        due.sentence("3. b and o at most 1 together", this::atMostOneTogether);
        due.sentence("3. at most 1 together (by little)", this::oneAndNextToIt);
        due.sentence("3. the first pane's are b, b, o", this::firstPane);
        due.sentence("3. and one more pane", this::onePaneMore);
        due.sentence("3. Where 1 - L b is 0 (both send all back) F and L are F and b, O is 0.", this::bothSendAllBack);
        due.sentence("3. Where 1 - L b is 0 (not where one sends less back)", this::oneOfBothSendsAllBack);
        due.sentence("2. by parts of 30 bits: part k is bits 30 k on", this::partsOfThirtyBits);
    }

    private void promises() {
        due.sentence("20: NONE: there are 8.", this::noNinthPane);
        due.sentence("20: IllegalArgumentException: shares are not as told.", this::farShares);
        due.sentence("21: All PANES go", this::allPanesGo);
        due.sentence("21: how many there were", this::howManyThereWere);
        due.sentence("22: 1 less F less O (3)", this::whatIsKept);
        due.sentence("22: Without PANES 0, 0, 1, 0.", this::withoutPanes);
        due.sentence("22: IllegalArgumentException: another what", this::shareWhats);
        due.sentence("22: IllegalArgumentException: k is not 0 to 39", this::partsOfShares);
    }

    public static void main(String[] args) {
        PaneBoundariesTest test = new PaneBoundariesTest();
        test.terms();
        test.promises();
        test.due.end();
    }
}
