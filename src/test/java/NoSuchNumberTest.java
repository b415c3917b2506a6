/** Numbers that name no TABLE, DEDUCTION or WORKER: in an office without any, with some, and with all that can be. */
public final class NoSuchNumberTest {
    private static final long INT_MIN = Integer.MIN_VALUE;
    private static final long INT_MAX = Integer.MAX_VALUE;
    private static final Check check = new Check();

    private record Named(String name, Check.Numbered call) {
    }

    private static final Named[] OF_TABLES = {
        new Named("stage", (x, n) -> x.stage((int) n, 0, 5)),
        new Named("tax", (x, n) -> x.tax((int) n, 5)),
        new Named("employ", (x, n) -> x.employ((int) n, 12, 0))};

    private static final Named[] OF_DEDUCTIONS = {
        new Named("enrol on", (x, n) -> x.enrol(0, (int) n, true)),
        new Named("enrol off", (x, n) -> x.enrol(0, (int) n, false)),
        new Named("part", (x, n) -> x.part(0, 0, (int) n)),
        new Named("deducted", (x, n) -> x.deducted(0, (int) n))};

    private static final Named[] OF_WORKERS = {
        new Named("change", (x, n) -> x.change((int) n, 3, 5)),
        new Named("pay", (x, n) -> x.pay((int) n, 5, false)),
        new Named("ask", (x, n) -> x.ask((int) n, 5, false)),
        new Named("sum", (x, n) -> x.sum((int) n, 0)),
        new Named("settle", (x, n) -> x.settle((int) n)),
        new Named("duty", (x, n) -> x.duty((int) n))};

    // These need a pay, a deduction or a year that has ended, where there is such a worker.
    private static final Named[] OF_BUSY_WORKERS = {
        new Named("enrol", (x, n) -> x.enrol((int) n, 0, true)),
        new Named("correct", (x, n) -> x.correct((int) n, 0, 5)),
        new Named("line", (x, n) -> x.line((int) n, 0, 0)),
        new Named("part", (x, n) -> x.part((int) n, 0, 0)),
        new Named("deducted", (x, n) -> x.deducted((int) n, 0)),
        new Named("statement", (x, n) -> x.statement((int) n, 0, 0))};

    public static void main(String[] args) {
        check.run(NoSuchNumberTest::noTable);
        check.run(NoSuchNumberTest::noTableForAChange);
        check.run(NoSuchNumberTest::noDeduction);
        check.run(NoSuchNumberTest::noWorker);
        check.end("NoSuchNumberTest");
    }

    private static void noTable() {
        check.sentence("IndexOutOfBoundsException: there is no such TABLE");
        for (Named named : OF_TABLES) {
            refused(named, PayLedger::new, INT_MIN, -1, 0, 1, 6, INT_MAX);
            refused(named, Offices::busy, INT_MIN, -1, 2, 3, 6, INT_MAX);
            refused(named, Offices::full, INT_MIN, -1, 6, 7, INT_MAX);
        }
        taken(OF_TABLES[1], Offices::busy, 0, 1);
        taken(OF_TABLES[2], Offices::busy, 0, 1);
        taken(OF_TABLES[1], Offices::full, 0, 5);
        check.takenEach("a stage of the last table", Offices::full, (x, n) -> x.stage((int) n, 5, 5), 5);
        check.takenEach("a stage of the last table", Offices::busy, (x, n) -> x.stage((int) n, 0, 5), 1);
    }

    private static void noTableForAChange() {
        check.sentence("change: IndexOutOfBoundsException: there is no such WORKER, or TABLE");
        Named named = new Named("change of the table", (x, n) -> x.change(0, 4, n));
        // Numbers whose lower half would name a table are among them.
        long[] far = {Long.MIN_VALUE, INT_MIN, -1, 1L << 32, (1L << 32) + 1, -(1L << 32), INT_MAX, Long.MAX_VALUE};
        refused(named, Offices::untaxed, far);
        refused(named, Offices::busy, far);
        refused(named, Offices::full, far);
        refused(named, Offices::untaxed, 1, 2, 6);
        refused(named, Offices::busy, 2, 3, 6);
        refused(named, Offices::full, 6, 7);
        taken(named, Offices::untaxed, 0);
        taken(named, Offices::busy, 0, 1);
        taken(named, Offices::full, 0, 5);
    }

    private static void noDeduction() {
        check.sentence("IndexOutOfBoundsException: there is no such DEDUCTION");
        for (Named named : OF_DEDUCTIONS) {
            refused(named, Offices::untaxed, INT_MIN, -1, 0, 1, 7, 8, INT_MAX);
            // 32 and 33 name what 0 and 1 do, if a number is taken for a bit of an int.
            refused(named, Offices::busy, INT_MIN, -32, -31, -1, 2, 3, 7, 8, 32, 33, 64, INT_MAX);
            refused(named, Offices::full, INT_MIN, -32, -1, 8, 9, 32, 64, INT_MAX);
            taken(named, Offices::busy, 0, 1);
            taken(named, Offices::full, 0, 7);
        }
    }

    private static void noWorker() {
        check.sentence("IndexOutOfBoundsException: there is no such WORKER");
        for (Named named : OF_WORKERS) {
            noWorker(named);
        }
        for (Named named : OF_BUSY_WORKERS) {
            noWorker(named);
        }
    }

    private static void noWorker(Named named) {
        refused(named, PayLedger::new, INT_MIN, -1, 0, 1, 10, INT_MAX);
        refused(named, Offices::busy, INT_MIN, -1, 2, 3, 9, 10, INT_MAX);
        refused(named, Offices::full, INT_MIN, -1, 10, 11, INT_MAX);
        taken(named, Offices::busy, 0, 1);
        taken(named, Offices::full, 0, 9);
    }

    private static void refused(Named named, Twins.Maker maker, long... numbers) {
        check.refusedEach(named.name(), Check.INDEX, maker, named.call(), numbers);
    }

    private static void taken(Named named, Twins.Maker maker, long... numbers) {
        check.takenEach(named.name(), maker, named.call(), numbers);
    }
}
