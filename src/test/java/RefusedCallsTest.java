import java.util.ArrayList;
import java.util.List;

/**
 * A call that throws or answers NONE changes nothing: of two like objects one gets the refused call,
 * and both must answer alike from there on. And the sentence that holds everywhere: no such STACK.
 */
public final class RefusedCallsTest extends Checks {
    private static final int[] SIX = {212, 313, 414, 511, 612, 794};

    interface StackCall {
        long on(GlassStack x, int stack);
    }

    interface ObjectCall {
        long on(GlassStack x);
    }

    interface Maker {
        GlassStack make();
    }

    record Refused(String name, String want, ObjectCall call) {
    }

    private static GlassStack middling() {
        GlassStack x = at(-3, 7, 212, 943);
        add(x, 1, 111);
        x.edge(0, 0, 2, 3);
        x.edge(1, 1, 5, 4);
        x.list(3, 1);
        x.list(1, 2);
        x.pane(1, 2, 1, 4);
        x.pane(1, 3, 1, 2);
        return x;
    }

    private static GlassStack full() {
        GlassStack x = at(24, 25, SIX);
        add(x, 1, SIX);
        x.edge(0, 0, 9, 1);
        x.edge(1, 1, 1, 9);
        x.turn(1);
        for (int up = 1; up <= 6; up++) {
            x.list(up, 7);
        }
        for (int i = 0; i < 8; i++) {
            x.pane(i, 99, 1, 2);
        }
        return x;
    }

    private static void tellStack(GlassStack x, int stack, StringBuilder told) {
        int count = x.about(stack, -1, 0);
        told.append(" stack ").append(count);
        for (int i = -3; i < count; i++) {
            for (int what = 0; what < (i == -1 ? 1 : i < 0 ? 2 : 3); what++) {
                told.append(' ').append(x.about(stack, i, what));
            }
        }
        for (int entry = 0; entry < 4; entry++) {
            told.append(' ').append(x.sign(stack, entry));
            told.append(' ').append(x.entry(stack, entry, false, 0)).append(' ').append(x.entry(stack, entry, true, 0));
        }
        told.append(' ').append(x.back(stack, false, 0)).append(' ').append(x.back(stack, true, 0));
        told.append(' ').append(x.stops(stack));
    }

    /** All that can be asked of an object; the last answers also change it. */
    private static String tell(GlassStack x) {
        StringBuilder told = new StringBuilder();
        tellStack(x, 0, told);
        tellStack(x, 1, told);
        told.append(" less ").append(x.less()).append(" same ").append(x.same()).append(" shares");
        for (int what = 0; what < 4; what++) {
            told.append(' ').append(x.share(what, false, 0)).append(' ').append(x.share(what, true, 0));
        }
        for (int n = 3; n >= 1; n--) {
            told.append(" chosen ").append(x.choose(0, n));
            tellStack(x, 0, told);
        }
        told.append(" listed");
        for (int up = 1; up <= 9; up++) {
            told.append(' ').append(x.list(up, 2));
        }
        return told.append(" panes ").append(x.clear()).toString();
    }

    private static List<Refused> wrongArguments() {
        List<Refused> calls = new ArrayList<>();
        String index = Due.OUT_OF_BOUNDS;
        String illegal = Due.ILLEGAL;
        calls.add(new Refused("edge(-1, 0, 2, 1)", index, x -> { x.edge(-1, 0, 2, 1); return 0; }));
        calls.add(new Refused("edge(0, 2, 2, 1)", illegal, x -> { x.edge(0, 2, 2, 1); return 0; }));
        calls.add(new Refused("edge(0, -1, 2, 1)", illegal, x -> { x.edge(0, -1, 2, 1); return 0; }));
        calls.add(new Refused("edge(0, 0, 10, 1)", illegal, x -> { x.edge(0, 0, 10, 1); return 0; }));
        calls.add(new Refused("edge(1, 1, 1, 0)", illegal, x -> { x.edge(1, 1, 1, 0); return 0; }));
        calls.add(new Refused("layer(2, 0, 7, 1, 1)", index, x -> x.layer(2, 0, 7, 1, 1)));
        calls.add(new Refused("layer(0, -1, 7, 1, 1)", illegal, x -> x.layer(0, -1, 7, 1, 1)));
        calls.add(new Refused("layer(0, 7, 7, 1, 1)", illegal, x -> x.layer(0, 7, 7, 1, 1)));
        calls.add(new Refused("layer(1, 0, 0, 1, 1)", illegal, x -> x.layer(1, 0, 0, 1, 1)));
        calls.add(new Refused("layer(1, 0, 1, 10, 1)", illegal, x -> x.layer(1, 0, 1, 10, 1)));
        calls.add(new Refused("layer(1, 0, 1, 1, 0)", illegal, x -> x.layer(1, 0, 1, 1, 0)));
        calls.add(new Refused("layer(1, 0, 1, 1, 5)", illegal, x -> x.layer(1, 0, 1, 1, 5)));
        calls.add(new Refused("drop(-1, 0)", index, x -> x.drop(-1, 0)));
        calls.add(new Refused("drop(0, -1)", Due.NO_SUCH, x -> x.drop(0, -1)));
        calls.add(new Refused("drop(1, 6)", Due.NO_SUCH, x -> x.drop(1, 6)));
        calls.add(new Refused("turn(2)", index, x -> { x.turn(2); return 0; }));
        calls.add(new Refused("turn(-1)", index, x -> { x.turn(-1); return 0; }));
        calls.add(new Refused("copy(2)", index, x -> { x.copy(2); return 0; }));
        calls.add(new Refused("copy(-1)", index, x -> { x.copy(-1); return 0; }));
        calls.add(new Refused("light(1, 0)", illegal, x -> { x.light(1, 0); return 0; }));
        calls.add(new Refused("light(1, 26)", illegal, x -> { x.light(1, 26); return 0; }));
        calls.add(new Refused("light(6, 5)", illegal, x -> { x.light(6, 5); return 0; }));
        calls.add(new Refused("light(-6, 5)", illegal, x -> { x.light(-6, 5); return 0; }));
        calls.add(new Refused("extreme(2, 5, true)", index, x -> x.extreme(2, 5, true)));
        calls.add(new Refused("extreme(0, 26, true)", illegal, x -> x.extreme(0, 26, true)));
        calls.add(new Refused("list(0, 1)", illegal, x -> x.list(0, 1)));
        calls.add(new Refused("list(9, 10)", illegal, x -> x.list(9, 10)));
        calls.add(new Refused("choose(2, 1)", index, x -> x.choose(2, 1)));
        calls.add(new Refused("choose(0, 4)", illegal, x -> x.choose(0, 4)));
        calls.add(new Refused("choose(0, -1)", illegal, x -> x.choose(0, -1)));
        calls.add(new Refused("pane(1, 2, 51, 100)", illegal, x -> x.pane(1, 2, 51, 100)));
        calls.add(new Refused("pane(-1, 2, 1, 2)", illegal, x -> x.pane(-1, 2, 1, 2)));
        calls.add(new Refused("pane(1, 101, 1, 2)", illegal, x -> x.pane(1, 101, 1, 2)));
        calls.add(new Refused("pane(0, 1, 0, 0)", illegal, x -> x.pane(0, 1, 0, 0)));
        calls.add(new Refused("share(4, false, 0)", illegal, x -> x.share(4, false, 0)));
        calls.add(new Refused("back(0, false, 40)", illegal, x -> x.back(0, false, 40)));
        calls.add(new Refused("about(0, 6, 0)", Due.NO_SUCH, x -> x.about(0, 6, 0)));
        return calls;
    }

    private void changesNothing(Maker maker, Refused refused) {
        GlassStack x = maker.make();
        due.equal(refused.name(), Due.outcome(() -> refused.call().on(x)), refused.want());
        due.equal("all after " + refused.name(), tell(x), tell(maker.make()));
    }

    private void exceptionsChangeNothing() {
        for (Refused refused : wrongArguments()) {
            changesNothing(GlassStack::new, refused);
            changesNothing(RefusedCallsTest::middling, refused);
            changesNothing(RefusedCallsTest::full, refused);
        }
    }

    private void noneChangesNothing() {
        String none = Integer.toString(GlassStack.NONE);
        for (int n = 1; n <= 3; n++) {
            int many = n;
            for (int stack = 0; stack < 2; stack++) {
                int number = stack;
                Refused choose = new Refused("choose(" + stack + ", " + n + ")", none, x -> x.choose(number, many));
                changesNothing(GlassStack::new, choose);
                changesNothing(() -> {
                    GlassStack x = full();
                    x.unlist();
                    return x;
                }, choose);
            }
        }
        for (int place = 0; place <= 6; place++) {
            int i = place;
            changesNothing(RefusedCallsTest::full, new Refused("layer(0, " + i + ")", none, x -> x.layer(0, i, 8, 1, 1)));
            changesNothing(RefusedCallsTest::full, new Refused("layer(1, " + i + ")", none, x -> x.layer(1, i, 8, 1, 1)));
        }
        changesNothing(RefusedCallsTest::full, new Refused("list(9, 1)", none, x -> x.list(9, 1)));
        changesNothing(RefusedCallsTest::full, new Refused("list(6, 7)", none, x -> x.list(6, 7)));
        changesNothing(RefusedCallsTest::middling, new Refused("list(2, 4)", none, x -> x.list(2, 4)));
        changesNothing(RefusedCallsTest::middling, new Refused("list(9, 3)", none, x -> x.list(9, 3)));
        changesNothing(RefusedCallsTest::full, new Refused("pane(1, 2, 1, 2)", none, x -> x.pane(1, 2, 1, 2)));
        changesNothing(RefusedCallsTest::full, new Refused("pane(0, 1, 0, 1)", none, x -> x.pane(0, 1, 0, 1)));
    }

    /** Questions change nothing either, whatever rows they reckon in. */
    private void questionsChangeNothing() {
        List<Refused> calls = new ArrayList<>();
        for (int stack = 0; stack < 2; stack++) {
            int number = stack;
            calls.add(new Refused("extreme", null, x -> x.extreme(number, 25, true)));
            calls.add(new Refused("extreme, greatest", null, x -> x.extreme(number, 1, false)));
            calls.add(new Refused("on", null, x -> x.on(number, true, 0)));
            calls.add(new Refused("entry", null, x -> x.entry(number, 2, true, 39)));
            calls.add(new Refused("stops", null, x -> x.stops(number) ? 1 : 0));
        }
        calls.add(new Refused("same", null, x -> x.same() ? 1 : 0));
        calls.add(new Refused("less", null, x -> x.less()));
        calls.add(new Refused("share", null, x -> x.share(3, true, 0)));
        Maker[] makers = {GlassStack::new, RefusedCallsTest::middling, RefusedCallsTest::full};
        for (Refused question : calls) {
            for (Maker maker : makers) {
                GlassStack x = maker.make();
                question.call().on(x);
                due.equal("all after " + question.name(), tell(x), tell(maker.make()));
            }
        }
    }

    private void stacks(String name, StackCall call) {
        due.sentence(name + ": IndexOutOfBoundsException: no such STACK (as everywhere).", () -> {
            range("new, stack", 0, 1, Due.OUT_OF_BOUNDS, stack -> {
                GlassStack x = new GlassStack();
                x.layer(0, 0, 1, 1, 1);
                x.layer(1, 0, 1, 1, 1);
                call.on(x, stack);
            });
            range("middling, stack", 0, 1, Due.OUT_OF_BOUNDS, stack -> call.on(middling(), stack));
            range("full, stack", 0, 1, Due.OUT_OF_BOUNDS, stack -> call.on(full(), stack));
        });
    }

    private void noSuchStacks() {
        stacks("2", (x, stack) -> { x.edge(stack, 0, 2, 1); return 0; });
        stacks("3", (x, stack) -> x.layer(stack, 0, 2, 1, 1));
        stacks("4", (x, stack) -> x.drop(stack, 0));
        stacks("5", (x, stack) -> x.about(stack, 0, 0) + x.about(stack, -1, 0));
        stacks("6", (x, stack) -> { x.turn(stack); return 0; });
        stacks("7", (x, stack) -> { x.copy(stack); return 0; });
        stacks("9", (x, stack) -> x.back(stack, false, 0));
        stacks("10", (x, stack) -> x.on(stack, true, 39));
        stacks("11", (x, stack) -> x.entry(stack, 3, false, 0));
        stacks("12", (x, stack) -> x.sign(stack, 0));
        stacks("13", (x, stack) -> x.stops(stack) ? 1 : 0);
        stacks("15", (x, stack) -> x.extreme(stack, 1, true));
        stacks("19", (x, stack) -> x.choose(stack, 1));
    }

    public static void main(String[] args) {
        RefusedCallsTest test = new RefusedCallsTest();
        test.noSuchStacks();
        test.due.sentence("each exception: the call changes nothing", test::exceptionsChangeNothing);
        test.due.sentence("each NONE: the call changes nothing", test::noneChangesNothing);
        test.due.sentence("each question: the call changes nothing", test::questionsChangeNothing);
        test.due.end();
    }
}
