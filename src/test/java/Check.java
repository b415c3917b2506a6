/** Counts the answers of one test that are not the ones that are due, and tells the verdict by the exit code. */
final class Check {
    interface Call {
        long answer();
    }

    interface Act {
        void act();
    }

    /** A call that is made with one number after the other. */
    interface Numbered {
        void on(PayLedger x, long number);
    }

    static final Class<IndexOutOfBoundsException> INDEX = IndexOutOfBoundsException.class;
    static final Class<IllegalArgumentException> ARGUMENT = IllegalArgumentException.class;
    static final Class<IllegalStateException> STATE = IllegalStateException.class;
    static final Class<UnsupportedOperationException> UNSUPPORTED = UnsupportedOperationException.class;
    static final Class<java.util.NoSuchElementException> NO_SUCH = java.util.NoSuchElementException.class;

    private static final String NOTHING = "nothing thrown";

    private String sentence = "";
    private int made = 0;
    private int wrong = 0;

    /** One test of several: an exception that it does not wait for is told, and the others go on. */
    void run(Act test) {
        made++;
        String thrown = outcome(test);
        if (!thrown.equals(NOTHING)) {
            tell("was ended by " + thrown);
        }
    }

    /** What is looked at from here on is this sentence of the document. */
    void sentence(String text) {
        sentence = text;
    }

    void due(String what, long want, long got) {
        made++;
        if (got != want) {
            tell(what + " answered " + got + ", due is " + want);
        }
    }

    void due(String what, String want, String got) {
        made++;
        if (!got.equals(want)) {
            tell(what + " answered " + got + ", due is " + want);
        }
    }

    void dueTrue(String what, boolean got) {
        due(what, 1, got ? 1 : 0);
    }

    /** The exception must be of that very class: a class below it comes from the machine. */
    void refused(String what, Class<? extends RuntimeException> want, Act act) {
        due(what, want.getSimpleName(), outcome(act));
    }

    /** The same of an office made for this call alone; and nothing that follows may tell that it was made. */
    void refused(String what, Class<? extends RuntimeException> want, Twins.Maker maker, Twins.Act call) {
        PayLedger x = maker.make();
        refused(what, want, () -> call.on(x));
        due(what + " changes nothing:", "", Twins.difference(maker, call));
    }

    void refusedEach(String what, Class<? extends RuntimeException> want, Twins.Maker maker, Numbered call,
            long... numbers) {
        for (long number : numbers) {
            refused(what + " " + number, want, maker, x -> call.on(x, number));
        }
    }

    void takenEach(String what, Twins.Maker maker, Numbered call, long... numbers) {
        for (long number : numbers) {
            PayLedger x = maker.make();
            due(what + " " + number, NOTHING, outcome(() -> call.on(x, number)));
        }
    }

    static String outcome(Act act) {
        try {
            act.act();
            return NOTHING;
        } catch (RuntimeException e) {
            return e.getClass().getSimpleName();
        }
    }

    static String outcome(Call call) {
        try {
            return Long.toString(call.answer());
        } catch (RuntimeException e) {
            return e.getClass().getSimpleName();
        }
    }

    void end(String name) {
        System.out.println(name + ": " + made + " answers looked at, " + wrong + " wrong");
        if (wrong != 0 || made == 0) {
            System.exit(1);
        }
    }

    private void tell(String text) {
        wrong++;
        if (wrong <= 40) {
            System.out.println("  " + (sentence.isEmpty() ? "" : "[" + sentence + "] ") + text);
        }
    }
}
