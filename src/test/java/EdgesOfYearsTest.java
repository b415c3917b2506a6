/** The boundary cases of promises 19 and 20: close, statement. */
public final class EdgesOfYearsTest {
    private static final Check check = new Check();

    public static void main(String[] args) {
        check.run(EdgesOfYearsTest::yearEnds);
        check.run(EdgesOfYearsTest::owedToAWorker);
        check.run(EdgesOfYearsTest::owedByAWorker);
        check.run(EdgesOfYearsTest::owedToOneByAnother);
        check.run(EdgesOfYearsTest::owedOfTheTenth);
        check.run(EdgesOfYearsTest::sixHaveEnded);
        check.run(EdgesOfYearsTest::lines);
        check.run(EdgesOfYearsTest::basicAndMoreLessDuty);
        check.run(EdgesOfYearsTest::cameLater);
        check.run(EdgesOfYearsTest::yearHasNotEnded);
        check.run(EdgesOfYearsTest::anotherWhat);
        check.end("EdgesOfYearsTest");
    }

    private static void yearEnds() {
        check.sentence("19: The YEAR ends: its number");
        PayLedger x = new PayLedger();
        PayLedger y = Offices.full();
        check.due("a full office", 1, y.close());
        for (int year = 0; year < 6; year++) {
            check.due("close() without workers", year, x.close());
        }
        check.refused("a seventh end", Check.UNSUPPORTED, () -> x.close());
    }

    /** Two workers whose pays of 100 are put right so. */
    private static PayLedger putRight(long first, long second) {
        PayLedger x = Offices.untaxed();
        x.employ(0, 12, 0);
        x.pay(0, 100, false);
        x.pay(1, 100, false);
        x.correct(0, 0, first);
        x.correct(1, 0, second);
        return x;
    }

    private static void owedToAWorker() {
        check.sentence("19: IllegalStateException: something is OWED to a WORKER");
        check.due("nothing is", 0, putRight(100, 100).close());
        check.refused("a coin to the first", Check.STATE, () -> putRight(101, 100), x -> x.close());
        check.refused("a coin to the second", Check.STATE, () -> putRight(100, 101), x -> x.close());
        check.refused("a coin to both", Check.STATE, () -> putRight(101, 101), x -> x.close());
        PayLedger y = putRight(101, 100);
        y.settle(0);
        check.due("it is settled", 0, y.close());
    }

    private static void owedByAWorker() {
        check.sentence("19: IllegalStateException: something is OWED (or by) a WORKER");
        check.refused("a coin by the first", Check.STATE, () -> putRight(99, 100), x -> x.close());
        check.refused("a coin by the second", Check.STATE, () -> putRight(100, 99), x -> x.close());
        check.refused("a coin by both", Check.STATE, () -> putRight(99, 99), x -> x.close());
        PayLedger y = putRight(99, 100);
        y.settle(0);
        check.due("it is settled", 0, y.close());
        PayLedger z = putRight(101, 100);
        z.settle(0);
        z.correct(0, 0, 100);
        check.refused("what was settled is too much then", Check.STATE, () -> z.close());
    }

    private static void owedToOneByAnother() {
        check.sentence("19: something is OWED to (or by) a WORKER (whatever the office's sum is)");
        check.refused("to the first by the second", Check.STATE, () -> putRight(101, 99), x -> x.close());
        check.refused("to the second by the first", Check.STATE, () -> putRight(99, 101), x -> x.close());
    }

    private static void owedOfTheTenth() {
        check.sentence("19: something is OWED to (or by) a WORKER (any of ten)");
        for (int worker = 0; worker < 10; worker++) {
            int w = worker;
            check.refused("worker " + w, Check.STATE, () -> {
                PayLedger x = Offices.full();
                x.correct(w, 0, 0);
                return x;
            }, x -> x.close());
        }
    }

    private static void sixHaveEnded() {
        check.sentence("19: UnsupportedOperationException: 6 have ended");
        PayLedger x = Offices.untaxed();
        for (int year = 0; year < 6; year++) {
            check.due("close() behind " + year, year, x.close());
        }
        check.refused("close() behind 6", Check.UNSUPPORTED, () -> x.close());
        check.due("the year", 6, x.count(3));
        check.refused("with a pay", Check.UNSUPPORTED, Offices::fullOfYears, y -> y.close());
        check.refused("settled", Check.UNSUPPORTED, () -> {
            PayLedger y = Offices.fullOfYears();
            y.correct(0, 0, 1);
            y.settle(0);
            return y;
        }, y -> y.close());
    }

    private static void lines() {
        check.sentence("20: what 0 to 7: sums as of line(), 8 how many PAYS, 9 DUTY, 10 BASIC and MORE less DUTY");
        PayLedger x = Offices.busy();
        x.correct(0, 1, 200000);
        x.settle(0);
        x.close();
        // INCOME's sum of 665000 less 600000: a tenth of 65000.
        long[] due = {700000, 35000, 665000, 142500, 1000, 43400, 478100, 413050, 2, 6500, 137000};
        for (int what = 0; what <= 10; what++) {
            check.due("statement(0, 1, " + what + ")", due[what], x.statement(0, 1, what));
        }
        PayLedger y = Offices.fullOfPays();
        long[] sums = new long[9];
        for (int what = 0; what <= 8; what++) {
            sums[what] = y.sum(0, what);
        }
        y.close();
        for (int what = 0; what <= 8; what++) {
            check.due("of sixty pays, " + what, sums[what], y.statement(0, 0, what));
        }
        check.due("how many", 60, y.statement(0, 0, 8));
    }

    private static void basicAndMoreLessDuty() {
        check.sentence("20: 10 BASIC and MORE less DUTY");
        long[][] due = {{0, -1}, {1, 0}, {2, 1}};
        for (long[] row : due) {
            PayLedger x = new PayLedger();
            x.table();
            x.table();
            x.stage(1, 0, 100000);
            x.employ(0, 1, 0);
            x.change(0, 3, row[0]);
            x.pay(0, 10, false);
            x.change(0, 4, 1);
            x.close();
            check.due("duty", 1, x.statement(0, 0, 9));
            check.due("extra " + row[0], row[1], x.statement(0, 0, 10));
        }
    }

    private static void cameLater() {
        check.sentence("20: (All 0 of one who came later.)");
        PayLedger x = Offices.allTaken(1, 0);
        x.pay(0, 100, false);
        x.close();
        x.employ(0, 1, 0);
        x.pay(1, 200, false);
        x.close();
        x.employ(0, 1, 0);
        for (int what = 0; what <= 10; what++) {
            check.due("worker 1, the year before", 0, x.statement(1, 0, what));
            check.due("worker 2, two years before", 0, x.statement(2, 0, what));
            check.due("worker 2, the year before", 0, x.statement(2, 1, what));
            check.due("worker 0, a year without pays", 0, x.statement(0, 1, what));
        }
        check.due("worker 1, the year of coming", 200, x.statement(1, 1, 0));
        check.refused("worker 2, the year of coming", Check.NO_SUCH, () -> x.statement(2, 2, 0));
        PayLedger y = Offices.untaxed();
        for (int year = 0; year < 6; year++) {
            y.close();
        }
        y.employ(0, 12, 0);
        y.pay(1, 100, false);
        for (int year = 0; year < 6; year++) {
            check.due("behind the last end, year " + year, 0, y.statement(1, year, 0));
        }
    }

    private static void yearHasNotEnded() {
        check.sentence("20: NoSuchElementException: that YEAR has not ended");
        long[] never = {Integer.MIN_VALUE, -2, -1, 6, 7, Integer.MAX_VALUE};
        for (int what = 0; what <= 10; what += 5) {
            int w = what;
            Check.Numbered call = (x, year) -> x.statement(0, (int) year, w);
            check.refusedEach("in the first year", Check.NO_SUCH, Offices::untaxed, call, never);
            check.refusedEach("in the first year", Check.NO_SUCH, Offices::untaxed, call, 0, 1);
            check.refusedEach("in the second year", Check.NO_SUCH, Offices::busy, call, never);
            check.refusedEach("in the second year", Check.NO_SUCH, Offices::busy, call, 1, 2, 5);
            check.takenEach("in the second year", Offices::busy, call, 0);
            check.refusedEach("behind the last end", Check.NO_SUCH, Offices::fullOfYears, call, never);
            check.takenEach("behind the last end", Offices::fullOfYears, call, 0, 1, 2, 3, 4, 5);
        }
        check.refusedEach("of one who came later", Check.NO_SUCH, Offices::busy,
                (x, year) -> x.statement(1, (int) year, 0), -1, 1);
    }

    private static void anotherWhat() {
        check.sentence("20: IllegalArgumentException: another what");
        for (int worker = 0; worker <= 1; worker++) {
            int w = worker;
            Check.Numbered call = (x, what) -> x.statement(w, 0, (int) what);
            check.takenEach("what", Offices::busy, call, 0, 10);
            check.refusedEach("what", Check.ARGUMENT, Offices::busy, call,
                    Integer.MIN_VALUE, -2, -1, 11, 12, Integer.MAX_VALUE);
        }
        check.refusedEach("of the last year, what", Check.ARGUMENT, Offices::fullOfYears,
                (x, what) -> x.statement(0, 5, (int) what), -1, 11);
    }
}
