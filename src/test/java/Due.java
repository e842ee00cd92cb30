/** Counts the answers that are not the ones due, and prints each of them. */
final class Due {
    static final String TAKEN = "0";
    static final String OUT_OF_BOUNDS = "throws.IndexOutOfBoundsException";
    static final String ILLEGAL = "throws.IllegalArgumentException";
    static final String NO_SUCH = "throws.NoSuchElementException";

    interface Call {
        long answer();
    }

    interface Deed {
        void run();
    }

    private int looked = 0;
    private int wrong = 0;
    private int sentences = 0;
    private String heading = "";

    /** A test of one sentence of the document, whose words stand ahead of every wrong answer. */
    void sentence(String words, Deed test) {
        int lookedBefore = looked;
        sentences++;
        heading = "\"" + words + "\": ";
        String end = outcome(test);
        equal("the test itself", end, TAKEN);
        isTrue("the test looks at an answer", looked > lookedBefore + 1);
        heading = "";
    }

    void equal(String call, long got, long want) {
        equal(call, Long.toString(got), Long.toString(want));
    }

    void equal(String call, String got, String want) {
        looked++;
        if (!got.equals(want)) {
            wrong++;
            System.out.println(heading + call + " answered " + got + ", due is " + want);
        }
    }

    void isTrue(String call, boolean got) {
        equal(call, got ? 1 : 0, 1);
    }

    void isFalse(String call, boolean got) {
        equal(call, got ? 1 : 0, 0);
    }

    void outOfBounds(String call, Deed deed) {
        equal(call, outcome(deed), OUT_OF_BOUNDS);
    }

    void illegal(String call, Deed deed) {
        equal(call, outcome(deed), ILLEGAL);
    }

    void noSuch(String call, Deed deed) {
        equal(call, outcome(deed), NO_SUCH);
    }

    void nothing(String call, Deed deed) {
        equal(call, outcome(deed), TAKEN);
    }

    static String outcome(Deed deed) {
        return outcome(() -> {
            deed.run();
            return 0;
        });
    }

    /** The exception's own class, not one above it: the machine's ArrayIndexOutOfBoundsException is another. */
    static String outcome(Call call) {
        try {
            return Long.toString(call.answer());
        } catch (RuntimeException e) {
            return "throws." + e.getClass().getSimpleName();
        }
    }

    void end() {
        String told = sentences > 0 ? sentences + " sentences, " : "";
        System.out.println(told + looked + " answers looked at, " + wrong + " not as due");
        if (wrong != 0) {
            System.exit(1);
        }
    }
}
