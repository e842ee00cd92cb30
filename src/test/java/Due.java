/** Counts the answers that are not the ones due, and prints each of them. */
final class Due {
    interface Call {
        long answer();
    }

    interface Deed {
        void run();
    }

    private int looked = 0;
    private int wrong = 0;

    void equal(String call, long got, long want) {
        looked++;
        if (got != want) {
            wrong++;
            System.out.println(call + " answered " + got + ", due is " + want);
        }
    }

    void equal(String call, String got, String want) {
        looked++;
        if (!got.equals(want)) {
            wrong++;
            System.out.println(call + " answered " + got + ", due is " + want);
        }
    }

    void isTrue(String call, boolean got) {
        equal(call, got ? 1 : 0, 1);
    }

    void isFalse(String call, boolean got) {
        equal(call, got ? 1 : 0, 0);
    }

    void outOfBounds(String call, Deed deed) {
        equal(call, outcome(deed), "throws.IndexOutOfBoundsException");
    }

    void illegal(String call, Deed deed) {
        equal(call, outcome(deed), "throws.IllegalArgumentException");
    }

    void noSuch(String call, Deed deed) {
        equal(call, outcome(deed), "throws.NoSuchElementException");
    }

    void nothing(String call, Deed deed) {
        equal(call, outcome(deed), "0");
    }

    static String outcome(Deed deed) {
        return outcome(() -> {
            deed.run();
            return 0;
        });
    }

    static String outcome(Call call) {
        try {
            return Long.toString(call.answer());
        } catch (RuntimeException e) {
            return "throws." + e.getClass().getSimpleName();
        }
    }

    void end() {
        System.out.println(looked + " answers looked at, " + wrong + " not as due");
        if (wrong != 0) {
            System.exit(1);
        }
    }
}
