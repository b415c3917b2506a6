/** Of several exceptions the one told first is thrown. */
public final class ExceptionOrderTest {
    private static final long TOO_MUCH = Offices.TRILLION + 1;
    private static final Check check = new Check();

    public static void main(String[] args) {
        check.sentence("Of several exceptions the one told first is thrown");
        check.run(ExceptionOrderTest::stage);
        check.run(ExceptionOrderTest::taxAndDeduction);
        check.run(ExceptionOrderTest::employ);
        check.run(ExceptionOrderTest::change);
        check.run(ExceptionOrderTest::payAndAsk);
        check.run(ExceptionOrderTest::correctAndLine);
        check.run(ExceptionOrderTest::part);
        check.run(ExceptionOrderTest::sums);
        check.run(ExceptionOrderTest::close);
        check.run(ExceptionOrderTest::statement);
        check.end("ExceptionOrderTest");
    }

    private static PayLedger fullOfStagesTaken() {
        PayLedger x = Offices.fullOfStages();
        x.employ(0, 12, 0);
        return x;
    }

    private static PayLedger fullOfYearsAndOwed() {
        PayLedger x = Offices.fullOfYears();
        x.correct(0, 0, 1);
        return x;
    }

    private static void stage() {
        check.refused("stage: no table, no rate, no floor", Check.INDEX, Offices::busy, x -> x.stage(2, 1, -1));
        check.refused("stage: no table, no rate, no floor, full", Check.INDEX, ExceptionOrderTest::fullOfStagesTaken,
                x -> x.stage(1, 0, -1));
        for (Twins.Maker full : new Twins.Maker[] {ExceptionOrderTest::fullOfStagesTaken, Offices::fullOfStages}) {
            check.refused("stage: no rate, 12 stages", Check.ARGUMENT, full, x -> x.stage(0, 111, 1000001));
            check.refused("stage: no higher floor, 12 stages", Check.ARGUMENT, full, x -> x.stage(0, 110, 5));
            check.refused("stage: too high a floor, 12 stages", Check.ARGUMENT, full, x -> x.stage(0, TOO_MUCH, 5));
        }
        check.refused("stage: no rate, taken", Check.ARGUMENT, Offices::busy, x -> x.stage(0, 5000000, -1));
        check.refused("stage: no higher floor, taken", Check.ARGUMENT, Offices::busy, x -> x.stage(0, 4000000, 5));
        check.refused("stage: no first floor, taken", Check.ARGUMENT, Offices::untaxed, x -> x.stage(0, 1, 5));
        check.refused("stage: taken, 12 stages", Check.STATE, ExceptionOrderTest::fullOfStagesTaken,
                x -> x.stage(0, 111, 5));
        check.refused("stage: 12 stages", Check.UNSUPPORTED, Offices::fullOfStages, x -> x.stage(0, 111, 5));
    }

    private static void taxAndDeduction() {
        check.refused("tax: no table, no amount", Check.INDEX, Offices::busy, x -> x.tax(2, -1));
        check.refused("deduction: no sort, 8 of them", Check.ARGUMENT, Offices::full,
                x -> x.deduction(true, 3, 0, 0, 0));
        check.refused("deduction: no size, 8 of them", Check.ARGUMENT, Offices::full,
                x -> x.deduction(true, 0, -1, 0, 0));
        check.refused("deduction: no cap, 8 of them", Check.ARGUMENT, Offices::full,
                x -> x.deduction(true, 0, 0, -2, 0));
        check.refused("deduction: no base, 8 of them", Check.ARGUMENT, Offices::full,
                x -> x.deduction(true, 0, 0, 0, -1));
        check.refused("deduction: 8 of them", Check.UNSUPPORTED, Offices::full, x -> x.deduction(true, 0, 0, 0, 0));
    }

    private static void employ() {
        check.refused("employ: no table, no periods", Check.INDEX, Offices::busy, x -> x.employ(2, 3, 0));
        check.refused("employ: no table, no method", Check.INDEX, Offices::busy, x -> x.employ(2, 12, 2));
        check.refused("employ: no table, no periods, 10 workers", Check.INDEX, Offices::full, x -> x.employ(6, 3, 2));
        check.refused("employ: no table, 10 workers", Check.INDEX, Offices::full, x -> x.employ(6, 12, 0));
        check.refused("employ: no periods, 10 workers", Check.ARGUMENT, Offices::full, x -> x.employ(5, 3, 0));
        check.refused("employ: no method, 10 workers", Check.ARGUMENT, Offices::full, x -> x.employ(5, 12, 2));
        // No worker has table 5: it must stay so.
        check.refused("employ: 10 workers", Check.UNSUPPORTED, Offices::full, x -> x.employ(5, 12, 0));
    }

    private static void change() {
        check.refused("change: no worker, another what", Check.INDEX, Offices::busy, x -> x.change(2, 6, 0));
        check.refused("change: no worker, no number", Check.INDEX, Offices::busy, x -> x.change(2, 1, -1));
        check.refused("change: no worker, no table", Check.INDEX, Offices::busy, x -> x.change(2, 4, 2));
        check.refused("change: no worker, a free table", Check.INDEX, Offices::busy, x -> x.change(2, 4, 1));
        check.refused("change: no table", Check.INDEX, Offices::busy, x -> x.change(0, 4, 2));
        check.refused("enrol: no worker, no deduction", Check.INDEX, Offices::busy, x -> x.enrol(2, 2, true));
    }

    private static void payAndAsk() {
        check.refused("pay: no worker, no gross", Check.INDEX, Offices::busy, x -> x.pay(2, -1, false));
        check.refused("ask: no worker, no gross", Check.INDEX, Offices::busy, x -> x.ask(2, -1, false));
        for (boolean bonus : new boolean[] {false, true}) {
            check.refused("pay: no gross, 60 pays", Check.ARGUMENT, Offices::fullOfPays, x -> x.pay(0, -1, bonus));
            check.refused("ask: no gross, 60 pays", Check.ARGUMENT, Offices::fullOfPays, x -> x.ask(0, -1, bonus));
            check.refused("pay: 60 pays", Check.UNSUPPORTED, Offices::fullOfPays, x -> x.pay(0, 0, bonus));
            check.refused("ask: 60 pays", Check.UNSUPPORTED, Offices::fullOfPays, x -> x.ask(0, 0, bonus));
        }
    }

    private static void correctAndLine() {
        check.refused("correct: no worker, pay, gross", Check.INDEX, Offices::busy, x -> x.correct(2, 2, -1));
        check.refused("correct: no worker, pay", Check.INDEX, Offices::busy, x -> x.correct(2, 2, 0));
        check.refused("correct: no worker, gross", Check.INDEX, Offices::busy, x -> x.correct(2, 0, -1));
        check.refused("correct: no pay, gross", Check.NO_SUCH, Offices::busy, x -> x.correct(0, 2, -1));
        check.refused("correct: no gross", Check.ARGUMENT, Offices::busy, x -> x.correct(0, 0, -1));
        check.refused("line: no worker, pay, what", Check.INDEX, Offices::busy, x -> x.line(2, 2, 9));
        check.refused("line: no worker, pay", Check.INDEX, Offices::busy, x -> x.line(2, 2, 0));
        check.refused("line: no worker, what", Check.INDEX, Offices::busy, x -> x.line(2, 0, 9));
        check.refused("line: no pay, what", Check.NO_SUCH, Offices::busy, x -> x.line(0, 2, 9));
        check.refused("line: no what", Check.ARGUMENT, Offices::busy, x -> x.line(0, 0, 9));
    }

    private static void part() {
        check.refused("part: no worker, pay, deduction", Check.INDEX, Offices::busy, x -> x.part(2, 2, 2));
        check.refused("part: no worker, pay", Check.INDEX, Offices::busy, x -> x.part(2, 2, 0));
        check.refused("part: no pay, deduction", Check.INDEX, Offices::busy, x -> x.part(0, 2, 2));
        check.refused("part: no deduction", Check.INDEX, Offices::busy, x -> x.part(0, 0, 2));
        check.refused("part: no pay", Check.NO_SUCH, Offices::busy, x -> x.part(0, 2, 0));
    }

    private static void sums() {
        check.refused("sum: no worker, what", Check.INDEX, Offices::busy, x -> x.sum(2, 11));
        check.refused("deducted: no worker, deduction", Check.INDEX, Offices::busy, x -> x.deducted(2, 2));
        check.refused("settle: no worker", Check.INDEX, Offices::busy, x -> x.settle(2));
        check.refused("duty: no worker", Check.INDEX, Offices::busy, x -> x.duty(2));
        check.refused("office: no what", Check.ARGUMENT, Offices::busy, x -> x.office(11));
        check.refused("bonus: no rate", Check.ARGUMENT, Offices::busy, x -> x.bonus(-1));
        check.refused("table: 6 of them", Check.UNSUPPORTED, Offices::full, x -> x.table());
    }

    private static void close() {
        check.refused("close: owed, 6 have ended", Check.STATE, ExceptionOrderTest::fullOfYearsAndOwed,
                x -> x.close());
        check.refused("close: 6 have ended", Check.UNSUPPORTED, Offices::fullOfYears, x -> x.close());
    }

    private static void statement() {
        check.refused("statement: no worker, year, what", Check.INDEX, Offices::busy, x -> x.statement(2, 1, 11));
        check.refused("statement: no worker, year", Check.INDEX, Offices::busy, x -> x.statement(2, 1, 0));
        check.refused("statement: no worker, what", Check.INDEX, Offices::busy, x -> x.statement(2, 0, 11));
        check.refused("statement: no year, what", Check.NO_SUCH, Offices::busy, x -> x.statement(0, 1, 11));
        check.refused("statement: no what", Check.ARGUMENT, Offices::busy, x -> x.statement(0, 0, 11));
        check.refused("statement: no year, what, of one who came later", Check.NO_SUCH, Offices::busy,
                x -> x.statement(1, 1, 11));
    }
}
