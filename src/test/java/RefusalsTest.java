/** A call that throws changes nothing: every exception that a call can throw, each by that one cause alone. */
public final class RefusalsTest {
    private static final long TOO_MUCH = Offices.TRILLION + 1;
    private static final Check check = new Check();

    public static void main(String[] args) {
        check.sentence("a call that throws changes nothing");
        check.run(RefusalsTest::noTable);
        check.run(RefusalsTest::noDeduction);
        check.run(RefusalsTest::noWorker);
        check.run(RefusalsTest::wrongForTheOffice);
        check.run(RefusalsTest::wrongForAWorker);
        check.run(RefusalsTest::wrongWhat);
        check.run(RefusalsTest::noSuch);
        check.run(RefusalsTest::state);
        check.run(RefusalsTest::unsupported);
        check.end("RefusalsTest");
    }

    /** In its second year, with pays put right, something settled, something owed and something just asked for. */
    private static PayLedger lively() {
        PayLedger x = Offices.busy();
        x.correct(0, 0, 450000);
        x.settle(0);
        x.correct(0, 1, 150000);
        x.correct(1, 0, 650000);
        x.ask(0, 7654321, false);
        x.ask(1, 1234567, true);
        return x;
    }

    private static void refused(String what, Class<? extends RuntimeException> want, Twins.Act call) {
        check.refused(what, want, RefusalsTest::lively, call);
    }

    private static void noTable() {
        refused("stage", Check.INDEX, x -> x.stage(2, 0, 5));
        refused("tax", Check.INDEX, x -> x.tax(2, 5));
        refused("employ", Check.INDEX, x -> x.employ(2, 12, 0));
        refused("change", Check.INDEX, x -> x.change(0, 4, 2));
    }

    private static void noDeduction() {
        refused("enrol", Check.INDEX, x -> x.enrol(0, 2, true));
        refused("enrol, off", Check.INDEX, x -> x.enrol(0, 2, false));
        refused("part", Check.INDEX, x -> x.part(0, 0, 2));
        refused("deducted", Check.INDEX, x -> x.deducted(0, 2));
    }

    private static void noWorker() {
        refused("change", Check.INDEX, x -> x.change(2, 3, 5));
        refused("change of the table", Check.INDEX, x -> x.change(2, 4, 1));
        refused("enrol", Check.INDEX, x -> x.enrol(2, 0, true));
        refused("pay", Check.INDEX, x -> x.pay(2, 5, false));
        refused("ask", Check.INDEX, x -> x.ask(2, 5, false));
        refused("correct", Check.INDEX, x -> x.correct(2, 0, 5));
        refused("line", Check.INDEX, x -> x.line(2, 0, 0));
        refused("part", Check.INDEX, x -> x.part(2, 0, 0));
        refused("sum", Check.INDEX, x -> x.sum(2, 0));
        refused("deducted", Check.INDEX, x -> x.deducted(2, 0));
        refused("settle", Check.INDEX, x -> x.settle(2));
        refused("duty", Check.INDEX, x -> x.duty(2));
        refused("statement", Check.INDEX, x -> x.statement(2, 0, 0));
    }

    private static void wrongForTheOffice() {
        refused("stage, rate", Check.ARGUMENT, x -> x.stage(1, 0, 1000001));
        refused("stage, first floor", Check.ARGUMENT, x -> x.stage(1, 1, 5));
        refused("stage, floor", Check.ARGUMENT, x -> x.stage(0, 4000000, 5));
        refused("stage, highest floor", Check.ARGUMENT, x -> x.stage(0, TOO_MUCH, 5));
        refused("tax", Check.ARGUMENT, x -> x.tax(0, TOO_MUCH));
        refused("deduction, sort", Check.ARGUMENT, x -> x.deduction(true, 3, 5, 5, 5));
        refused("deduction, sum", Check.ARGUMENT, x -> x.deduction(true, 0, Offices.BILLION + 1, 5, 5));
        refused("deduction, rate", Check.ARGUMENT, x -> x.deduction(true, 1, 1000001, 5, 5));
        refused("deduction, cap", Check.ARGUMENT, x -> x.deduction(true, 0, 5, TOO_MUCH, 5));
        refused("deduction, base", Check.ARGUMENT, x -> x.deduction(true, 0, 5, 5, TOO_MUCH));
        refused("employ, periods", Check.ARGUMENT, x -> x.employ(1, 3, 0));
        refused("employ, method", Check.ARGUMENT, x -> x.employ(1, 12, 2));
        refused("bonus", Check.ARGUMENT, x -> x.bonus(1000001));
    }

    private static void wrongForAWorker() {
        refused("change, method", Check.ARGUMENT, x -> x.change(0, 0, 2));
        refused("change, relief", Check.ARGUMENT, x -> x.change(0, 1, TOO_MUCH));
        refused("change, credit", Check.ARGUMENT, x -> x.change(0, 2, TOO_MUCH));
        refused("change, extra", Check.ARGUMENT, x -> x.change(0, 3, Offices.BILLION + 1));
        refused("change, periods", Check.ARGUMENT, x -> x.change(0, 5, 3));
        refused("pay", Check.ARGUMENT, x -> x.pay(0, Offices.BILLION + 1, false));
        refused("pay, a bonus", Check.ARGUMENT, x -> x.pay(0, Offices.BILLION + 1, true));
        refused("ask", Check.ARGUMENT, x -> x.ask(0, Offices.BILLION + 1, false));
        refused("ask, a bonus", Check.ARGUMENT, x -> x.ask(0, Offices.BILLION + 1, true));
        refused("correct", Check.ARGUMENT, x -> x.correct(0, 0, Offices.BILLION + 1));
    }

    private static void wrongWhat() {
        refused("change", Check.ARGUMENT, x -> x.change(0, 6, 0));
        refused("line", Check.ARGUMENT, x -> x.line(0, 0, 9));
        refused("sum", Check.ARGUMENT, x -> x.sum(0, 11));
        refused("statement", Check.ARGUMENT, x -> x.statement(0, 0, 11));
        refused("office", Check.ARGUMENT, x -> x.office(11));
    }

    private static void noSuch() {
        refused("correct", Check.NO_SUCH, x -> x.correct(0, 2, 5));
        refused("line", Check.NO_SUCH, x -> x.line(0, 2, 0));
        refused("part", Check.NO_SUCH, x -> x.part(0, 2, 0));
        refused("statement", Check.NO_SUCH, x -> x.statement(0, 1, 0));
    }

    private static void state() {
        refused("stage", Check.STATE, x -> x.stage(0, 5000000, 5));
        refused("close", Check.STATE, x -> x.close());
    }

    private static void unsupported() {
        check.refused("table", Check.UNSUPPORTED, Offices::full, x -> x.table());
        check.refused("stage", Check.UNSUPPORTED, Offices::fullOfStages, x -> x.stage(0, 111, 5));
        check.refused("deduction", Check.UNSUPPORTED, Offices::full, x -> x.deduction(true, 0, 5, 5, 5));
        check.refused("employ", Check.UNSUPPORTED, Offices::full, x -> x.employ(5, 12, 0));
        check.refused("pay", Check.UNSUPPORTED, Offices::fullOfPays, x -> x.pay(0, 5, false));
        check.refused("ask", Check.UNSUPPORTED, Offices::fullOfPays, x -> x.ask(0, 5, false));
        check.refused("close", Check.UNSUPPORTED, Offices::fullOfYears, x -> x.close());
    }
}
