/** The boundary cases of promises 1 to 4: a new object, table, stage, tax. */
public final class EdgesOfTablesTest {
    private static final long TOP = Offices.TRILLION;
    private static final Check check = new Check();

    public static void main(String[] args) {
        check.run(EdgesOfTablesTest::newObject);
        check.run(EdgesOfTablesTest::tableWithoutStages);
        check.run(EdgesOfTablesTest::thereAre6);
        check.run(EdgesOfTablesTest::howManyTheTableHas);
        check.run(EdgesOfTablesTest::noRate);
        check.run(EdgesOfTablesTest::noFirstFloor);
        check.run(EdgesOfTablesTest::notAboveTheLatest);
        check.run(EdgesOfTablesTest::aboveTheHighest);
        check.run(EdgesOfTablesTest::aWorkerHasIt);
        check.run(EdgesOfTablesTest::aWorkerHadIt);
        check.run(EdgesOfTablesTest::noWorkerEverHadIt);
        check.run(EdgesOfTablesTest::itHas12);
        check.run(EdgesOfTablesTest::amounts);
        check.end("EdgesOfTablesTest");
    }

    private static void newObject() {
        check.sentence("1: No TABLES, DEDUCTIONS, WORKERS; it is YEAR 0");
        PayLedger x = new PayLedger();
        for (int what = 0; what <= 6; what++) {
            check.due("count(" + what + ")", 0, x.count(what));
        }
        for (int what = 0; what <= 10; what++) {
            check.due("office(" + what + ")", 0, x.office(what));
        }
        check.refused("tax of table 0", Check.INDEX, PayLedger::new, y -> y.tax(0, 0));
        check.refused("a worker of table 0", Check.INDEX, PayLedger::new, y -> y.employ(0, 12, 0));
        check.refused("sum of worker 0", Check.INDEX, PayLedger::new, y -> y.sum(0, 0));
        check.refused("statement of worker 0", Check.INDEX, PayLedger::new, y -> y.statement(0, 0, 0));
        check.refused("deduction 0", Check.INDEX, Offices::untaxed, y -> y.deducted(0, 0));
        check.due("the first table", 0, x.table());
        check.due("the first deduction", 0, x.deduction(true, 0, 0, 0, 0));
        check.due("the first worker", 0, x.employ(0, 1, 0));
        check.due("the first year ends", 0, x.close());
        check.due("another object is not touched", 0, new PayLedger().table());
    }

    private static void tableWithoutStages() {
        check.sentence("2: A new TABLE, without STAGES: its number");
        PayLedger x = new PayLedger();
        for (int table = 0; table < 6; table++) {
            check.due("table()", table, x.table());
            check.due("how many there are", table + 1, x.count(0));
            check.due("tax of it", 0, x.tax(table, TOP));
            check.due("its first stage", 1, x.stage(table, 0, 1000000));
            check.due("tax of it", TOP, x.tax(table, TOP));
        }
    }

    private static void thereAre6() {
        check.sentence("2: UnsupportedOperationException: there are 6");
        for (int there = 0; there <= 6; there++) {
            int tables = there;
            Twins.Maker maker = () -> tables(tables);
            if (there < 6) {
                check.due("table() behind " + there, there, maker.make().table());
            } else {
                check.refused("table() behind " + there, Check.UNSUPPORTED, maker, x -> x.table());
            }
        }
        check.refused("table() in a full office", Check.UNSUPPORTED, Offices::full, x -> x.table());
    }

    private static PayLedger tables(int many) {
        PayLedger x = new PayLedger();
        for (int i = 0; i < many; i++) {
            x.table();
        }
        return x;
    }

    private static void howManyTheTableHas() {
        check.sentence("3: A STAGE more: how many the TABLE has");
        PayLedger x = tables(2);
        for (int stages = 1; stages <= 12; stages++) {
            check.due("stage of the first", stages, x.stage(0, (stages - 1) * 10, 5));
            check.due("stage of the second", stages, x.stage(1, (stages - 1) * 1000, 5));
        }
    }

    /** Table 0 has stages from 0 and from 50 on. */
    private static PayLedger twoStages() {
        PayLedger x = Offices.freeTable();
        x.stage(0, 0, 100000);
        x.stage(0, 50, 200000);
        return x;
    }

    private static void noRate() {
        check.sentence("3: IllegalArgumentException: rate is no RATE");
        Check.Numbered first = (x, rate) -> x.stage(0, 0, (int) rate);
        Check.Numbered third = (x, rate) -> x.stage(0, 51, (int) rate);
        check.takenEach("first rate", Offices::freeTable, first, 0, 1, 999999, 1000000);
        check.takenEach("third rate", EdgesOfTablesTest::twoStages, third, 0, 1, 999999, 1000000);
        long[] none = {Integer.MIN_VALUE, -1000000, -1, 1000001, Integer.MAX_VALUE};
        check.refusedEach("first rate", Check.ARGUMENT, Offices::freeTable, first, none);
        check.refusedEach("third rate", Check.ARGUMENT, EdgesOfTablesTest::twoStages, third, none);
    }

    private static void noFirstFloor() {
        check.sentence("3: IllegalArgumentException: floor is not 0 for the first one");
        Check.Numbered stage = (x, floor) -> x.stage(0, floor, 5);
        check.takenEach("first floor", Offices::freeTable, stage, 0);
        check.refusedEach("first floor", Check.ARGUMENT, Offices::freeTable, stage,
                Long.MIN_VALUE, -1, 1, TOP, TOP + 1, 1L << 32, Long.MAX_VALUE);
    }

    private static void notAboveTheLatest() {
        check.sentence("3: IllegalArgumentException: floor is not above the latest one's for others");
        Check.Numbered stage = (x, floor) -> x.stage(0, floor, 5);
        check.takenEach("third floor", EdgesOfTablesTest::twoStages, stage, 51, 52, TOP);
        check.refusedEach("third floor", Check.ARGUMENT, EdgesOfTablesTest::twoStages, stage,
                50, 49, 1, 0, -1, Long.MIN_VALUE);
        Twins.Maker one = () -> {
            PayLedger x = Offices.freeTable();
            x.stage(0, 0, 5);
            return x;
        };
        check.takenEach("second floor", one, stage, 1, 2, TOP);
        check.refusedEach("second floor", Check.ARGUMENT, one, stage, 0, -1);
    }

    private static void aboveTheHighest() {
        check.sentence("3: IllegalArgumentException: floor is above 1000000000000");
        Check.Numbered stage = (x, floor) -> x.stage(0, floor, 5);
        check.takenEach("third floor", EdgesOfTablesTest::twoStages, stage, TOP - 1, TOP);
        check.refusedEach("third floor", Check.ARGUMENT, EdgesOfTablesTest::twoStages, stage,
                TOP + 1, TOP + 2, Long.MAX_VALUE);
        Twins.Maker top = () -> {
            PayLedger x = twoStages();
            x.stage(0, TOP, 5);
            return x;
        };
        check.refusedEach("a floor behind the highest", Check.ARGUMENT, top, stage, TOP - 1, TOP, TOP + 1);
    }

    private static void aWorkerHasIt() {
        check.sentence("3: IllegalStateException: a WORKER has it");
        Twins.Maker employed = () -> {
            PayLedger x = twoStages();
            x.employ(0, 12, 0);
            return x;
        };
        check.refused("by employ()", Check.STATE, employed, x -> x.stage(0, 60, 5));
        Twins.Maker changed = () -> {
            PayLedger x = twoStages();
            x.table();
            x.employ(1, 12, 0);
            x.change(0, 4, 0);
            return x;
        };
        check.refused("by change()", Check.STATE, changed, x -> x.stage(0, 60, 5));
        check.refused("a first stage", Check.STATE, Offices::untaxed, x -> x.stage(0, 0, 5));
    }

    private static void aWorkerHadIt() {
        check.sentence("3: IllegalStateException: a WORKER had it");
        Twins.Maker had = () -> {
            PayLedger x = twoStages();
            x.table();
            x.employ(0, 12, 0);
            x.change(0, 4, 1);
            return x;
        };
        check.refused("no pay by it", Check.STATE, had, x -> x.stage(0, 60, 5));
        Twins.Maker hadLastYear = () -> {
            PayLedger x = had.make();
            x.pay(0, 100, false);
            x.close();
            return x;
        };
        check.refused("in a year that ended", Check.STATE, hadLastYear, x -> x.stage(0, 60, 5));
    }

    private static void noWorkerEverHadIt() {
        check.sentence("3: a WORKER has it or had it (none did)");
        PayLedger x = tables(3);
        x.employ(0, 12, 0);
        check.due("another table", 1, x.stage(1, 0, 5));
        check.refused("employ() that is refused", Check.ARGUMENT, () -> x.employ(1, 3, 0));
        check.refused("change() that is refused", Check.INDEX, () -> x.change(1, 4, 1));
        check.due("still free", 2, x.stage(1, 1, 5));
        x.change(0, 4, 2);
        check.due("still free", 3, x.stage(1, 2, 5));
    }

    private static void itHas12() {
        check.sentence("3: UnsupportedOperationException: it has 12");
        Twins.Maker eleven = () -> {
            PayLedger x = Offices.freeTable();
            for (int i = 0; i < 11; i++) {
                x.stage(0, i * 10, 100000);
            }
            return x;
        };
        check.due("a twelfth one", 12, eleven.make().stage(0, 110, 5));
        check.refusedEach("a thirteenth one, floor", Check.UNSUPPORTED, Offices::fullOfStages,
                (x, floor) -> x.stage(0, floor, 5), 111, TOP);
    }

    private static void amounts() {
        check.sentence("4: IllegalArgumentException: it is not 0 to 1000000000000");
        PayLedger x = Offices.allTaken(1, 0);
        for (long amount : new long[] {0, 1, 2, TOP - 1, TOP}) {
            check.due("tax of " + amount, amount, x.tax(0, amount));
        }
        check.refusedEach("tax of", Check.ARGUMENT, Offices::busy, (y, amount) -> y.tax(0, amount),
                Long.MIN_VALUE, -TOP, -1, TOP + 1, Long.MAX_VALUE);
        check.refusedEach("tax by a table without stages of", Check.ARGUMENT, Offices::busy,
                (y, amount) -> y.tax(1, amount), -1, TOP + 1);
    }
}
