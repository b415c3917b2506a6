import java.util.Arrays;
import java.util.stream.LongStream;

/** The boundary cases of promises 6, 7 and 9: employ, change, bonus. */
public final class EdgesOfWorkersTest {
    private static final long BILLION = Offices.BILLION;
    private static final long TOP = Offices.TRILLION;
    private static final int[] PERIODS = {1, 2, 4, 12, 13, 24, 26, 52};
    private static final Check check = new Check();

    public static void main(String[] args) {
        check.run(EdgesOfWorkersTest::periods);
        check.run(EdgesOfWorkersTest::methods);
        check.run(EdgesOfWorkersTest::thereAre10);
        check.run(EdgesOfWorkersTest::changeOfMethod);
        check.run(EdgesOfWorkersTest::changeOfRelief);
        check.run(EdgesOfWorkersTest::changeOfCredit);
        check.run(EdgesOfWorkersTest::changeOfExtra);
        check.run(EdgesOfWorkersTest::changeOfTable);
        check.run(EdgesOfWorkersTest::changeOfPeriods);
        check.run(EdgesOfWorkersTest::anotherWhat);
        check.run(EdgesOfWorkersTest::bonusRate);
        check.end("EdgesOfWorkersTest");
    }

    /** All whole numbers from -1 to 60 that are no number of PERIODS, and some far away. */
    private static long[] noPeriods() {
        LongStream near = LongStream.rangeClosed(-1, 60);
        LongStream far = LongStream.of(Integer.MIN_VALUE, -12, 365, Integer.MAX_VALUE);
        return LongStream.concat(near, far).filter(n -> Arrays.stream(PERIODS).noneMatch(p -> p == n)).toArray();
    }

    private static void periods() {
        check.sentence("6: IllegalArgumentException: periods is none of those told");
        for (int periods : PERIODS) {
            check.due(periods + " periods", 0, Offices.withTable().employ(0, periods, 0));
        }
        check.refusedEach("periods", Check.ARGUMENT, Offices::busy, (x, periods) -> x.employ(1, (int) periods, 0),
                noPeriods());
    }

    private static void methods() {
        check.sentence("6: IllegalArgumentException: method is none of those told");
        check.takenEach("method", Offices::busy, (x, method) -> x.employ(1, 12, (int) method), 0, 1);
        check.refusedEach("method", Check.ARGUMENT, Offices::busy, (x, method) -> x.employ(1, 12, (int) method),
                Integer.MIN_VALUE, -1, 2, 3, Integer.MAX_VALUE);
    }

    private static void thereAre10() {
        check.sentence("6: UnsupportedOperationException: there are 10");
        PayLedger x = Offices.withTable();
        for (int worker = 0; worker < 10; worker++) {
            check.due("employ()", worker, x.employ(0, 12, worker % 2));
            check.due("how many there are", worker + 1, x.count(2));
        }
        check.refused("an eleventh one", Check.UNSUPPORTED, () -> x.employ(0, 12, 0));
        check.refused("an eleventh one", Check.UNSUPPORTED, Offices::full, y -> y.employ(0, 12, 0));
        check.refused("an eleventh one of a free table", Check.UNSUPPORTED, Offices::full, y -> y.employ(5, 52, 1));
    }

    private static void changeOfMethod() {
        check.sentence("7: what 0 METHOD");
        PayLedger x = Offices.allTaken(1, 0);
        x.pay(0, 0, false);
        // By method 1: 3 by 2 is 1, times 2.
        x.change(0, 0, 1);
        check.due("method 1", 1, x.ask(0, 3, false));
        x.change(0, 0, 0);
        check.due("method 0", 0, x.ask(0, 3, false));
        refused(0, Long.MIN_VALUE, -1, 2, 3, 1L << 32, (1L << 32) + 1, Long.MAX_VALUE);
    }

    private static void changeOfRelief() {
        check.sentence("7: what 1 RELIEF (0 to 1000000000000)");
        long[][] due = {{0, 0}, {1, 1}, {BILLION - 1, BILLION - 1}, {BILLION, BILLION}, {TOP - 1, BILLION},
            {TOP, BILLION}};
        nets(1, due);
        refused(1, Long.MIN_VALUE, -2, -1, TOP + 1, TOP + 2, Long.MAX_VALUE);
    }

    private static void changeOfCredit() {
        check.sentence("7: what 2 CREDIT (likewise)");
        long[][] due = {{0, 0}, {1, 1}, {BILLION - 1, BILLION - 1}, {BILLION, BILLION}, {TOP - 1, BILLION},
            {TOP, BILLION}};
        nets(2, due);
        refused(2, Long.MIN_VALUE, -2, -1, TOP + 1, TOP + 2, Long.MAX_VALUE);
    }

    /** What is left of the highest pay, all of which is taken but for what was changed. */
    private static void nets(int what, long[][] due) {
        for (long[] row : due) {
            PayLedger x = Offices.allTaken(1, 0);
            x.change(0, what, row[0]);
            check.due("net, " + row[0], row[1], x.ask(0, BILLION, false));
        }
    }

    private static void changeOfExtra() {
        check.sentence("7: what 3 EXTRA (0 to 1000000000)");
        for (long extra : new long[] {0, 1, BILLION - 1, BILLION}) {
            PayLedger x = Offices.untaxed();
            x.change(0, 3, extra);
            check.due("net, extra " + extra, BILLION - extra, x.ask(0, BILLION, false));
        }
        refused(3, Long.MIN_VALUE, -2, -1, BILLION + 1, BILLION + 2, TOP, 1L << 32, Long.MAX_VALUE);
    }

    private static void changeOfTable() {
        check.sentence("7: what 4 TABLE");
        PayLedger x = Offices.full();
        // Worker 9 has an income of 200009; table 1 takes a tenth of it, table 2 two tenths, and so on.
        long[] due = {0, 20001, 40002, 60003, 80004, 100005};
        for (int table = 0; table < 6; table++) {
            x.change(9, 4, table);
            check.due("duty by table " + table, due[table], x.duty(9));
        }
        check.refusedEach("change(0, 4, ..)", Check.INDEX, Offices::busy, (y, v) -> y.change(0, 4, v),
                Long.MIN_VALUE, -1, 2, 6, 1L << 32, Long.MAX_VALUE);
    }

    private static void changeOfPeriods() {
        check.sentence("7: what 5 PERIODS");
        long[] due = {10000, 10000, 10000, 11667, 12308, 15833, 16154, 22692};
        PayLedger x = Offices.withWorker(12, 0);
        for (int i = PERIODS.length - 1; i >= 0; i--) {
            x.change(0, 5, PERIODS[i]);
            check.due(PERIODS[i] + " periods", 100000 - due[i], x.ask(0, 100000, false));
        }
        refused(5, noPeriods());
        refused(5, Long.MIN_VALUE, (1L << 32) + 12, (1L << 40) + 1, Long.MAX_VALUE);
    }

    private static void anotherWhat() {
        check.sentence("7: IllegalArgumentException: another what");
        for (long v : new long[] {0, 1, 12}) {
            check.refusedEach("a change to " + v + " of what", Check.ARGUMENT, Offices::busy,
                    (x, what) -> x.change(0, (int) what, v), Integer.MIN_VALUE, -1, 6, 7, Integer.MAX_VALUE);
        }
    }

    private static void refused(int what, long... numbers) {
        check.refusedEach("change(0, " + what + ", ..)", Check.ARGUMENT, Offices::busy,
                (x, v) -> x.change(0, what, v), numbers);
    }

    private static void bonusRate() {
        check.sentence("9: IllegalArgumentException: it is no RATE");
        PayLedger x = Offices.untaxed();
        for (int rate : new int[] {1000000, 999999, 1, 0}) {
            x.bonus(rate);
            check.due("count(6)", rate, x.count(6));
            check.due("net of a million", 1000000 - rate, x.ask(0, 1000000, true));
        }
        check.refusedEach("bonus", Check.ARGUMENT, Offices::busy, (y, rate) -> y.bonus((int) rate),
                Integer.MIN_VALUE, -1000000, -1, 1000001, Integer.MAX_VALUE);
        check.refusedEach("bonus without workers", Check.ARGUMENT, PayLedger::new,
                (y, rate) -> y.bonus((int) rate), -1, 1000001);
    }
}
