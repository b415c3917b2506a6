/** A call that throws changes nothing, and of several exceptions the one told first is thrown. */
public final class RefusalsTest {
    private interface On {
        void act(PayLedger x);
    }

    private static final Check check = new Check();

    public static void main(String[] args) {
        index();
        argument();
        noSuch();
        state();
        unsupported();
        check.end("RefusalsTest");
    }

    private static void index() {
        refused("stage", Check.INDEX, x -> x.stage(2, -1, -1));
        refused("tax", Check.INDEX, x -> x.tax(2, -1));
        refused("employ", Check.INDEX, x -> x.employ(2, 3, 3));
        refused("change, worker", Check.INDEX, x -> x.change(2, 9, -1));
        refused("change, table", Check.INDEX, x -> x.change(0, 4, 2));
        refused("enrol, worker", Check.INDEX, x -> x.enrol(2, 0, true));
        refused("enrol, deduction", Check.INDEX, x -> x.enrol(1, 2, true));
        refused("pay", Check.INDEX, x -> x.pay(2, -1, false));
        refused("ask", Check.INDEX, x -> x.ask(2, -1, false));
        refused("correct", Check.INDEX, x -> x.correct(2, 9, -1));
        refused("line", Check.INDEX, x -> x.line(2, 9, 9));
        refused("part, worker", Check.INDEX, x -> x.part(2, 9, 0));
        refused("part, deduction", Check.INDEX, x -> x.part(0, 9, 2));
        refused("sum", Check.INDEX, x -> x.sum(2, 11));
        refused("deducted, worker", Check.INDEX, x -> x.deducted(2, 0));
        refused("deducted, deduction", Check.INDEX, x -> x.deducted(0, 2));
        refused("settle", Check.INDEX, x -> x.settle(2));
        refused("duty", Check.INDEX, x -> x.duty(2));
        refused("statement", Check.INDEX, x -> x.statement(2, 9, 11));
    }

    private static void argument() {
        refused("stage, rate", Check.ARGUMENT, x -> x.stage(0, 5000000, -1));
        refused("stage, floor", Check.ARGUMENT, x -> x.stage(0, 4000000, 5));
        refused("stage, free", Check.ARGUMENT, x -> x.stage(1, 5, 5));
        refused("tax", Check.ARGUMENT, x -> x.tax(0, -1));
        refused("deduction", Check.ARGUMENT, x -> x.deduction(true, 3, 0, 0, 0));
        refused("employ, periods", Check.ARGUMENT, x -> x.employ(0, 3, 0));
        refused("employ, method", Check.ARGUMENT, x -> x.employ(0, 12, 2));
        refused("change, what", Check.ARGUMENT, x -> x.change(0, 6, 0));
        refused("change, method", Check.ARGUMENT, x -> x.change(0, 0, 2));
        refused("change, relief", Check.ARGUMENT, x -> x.change(0, 1, -1));
        refused("change, credit", Check.ARGUMENT, x -> x.change(0, 2, -1));
        refused("change, extra", Check.ARGUMENT, x -> x.change(0, 3, -1));
        refused("change, periods", Check.ARGUMENT, x -> x.change(0, 5, 3));
        refused("bonus", Check.ARGUMENT, x -> x.bonus(1000001));
        refused("pay", Check.ARGUMENT, x -> x.pay(0, -1, true));
        refused("ask", Check.ARGUMENT, x -> x.ask(0, -1, true));
        refused("correct", Check.ARGUMENT, x -> x.correct(0, 0, -1));
        refused("line", Check.ARGUMENT, x -> x.line(0, 0, 9));
        refused("sum", Check.ARGUMENT, x -> x.sum(0, 11));
        refused("statement", Check.ARGUMENT, x -> x.statement(0, 0, 11));
        refused("office", Check.ARGUMENT, x -> x.office(11));
    }

    private static void noSuch() {
        refused("correct", Check.NO_SUCH, x -> x.correct(0, 2, -1));
        refused("line", Check.NO_SUCH, x -> x.line(0, 2, 9));
        refused("part", Check.NO_SUCH, x -> x.part(0, 2, 0));
        refused("statement", Check.NO_SUCH, x -> x.statement(0, 1, 11));
    }

    private static void state() {
        refused("stage", Check.STATE, x -> x.stage(0, 5000000, 5));
        PayLedger x = Offices.busy();
        x.correct(1, 0, 100000);
        refusedOf(x, "close", Check.STATE, y -> y.close());
    }

    private static void unsupported() {
        PayLedger tables = Offices.busy();
        for (int i = 2; i < 6; i++) {
            tables.table();
        }
        refusedOf(tables, "table", Check.UNSUPPORTED, x -> x.table());
        PayLedger deductions = Offices.busy();
        for (int i = 2; i < 8; i++) {
            deductions.deduction(true, 0, 0, 0, 0);
        }
        refusedOf(deductions, "deduction", Check.UNSUPPORTED, x -> x.deduction(true, 0, 0, 0, 0));
        PayLedger workers = Offices.withTable();
        for (int i = 0; i < 10; i++) {
            workers.employ(0, 12, 0);
        }
        workers.table();
        refusedOf(workers, "employ", Check.UNSUPPORTED, x -> x.employ(1, 12, 0));
        check.due("a worker refused does not take the table", 1, workers.stage(1, 0, 0));
        PayLedger years = Offices.untaxed();
        for (int i = 0; i < 6; i++) {
            years.close();
        }
        years.pay(0, 100, false);
        refusedOf(years, "close", Check.UNSUPPORTED, x -> x.close());
    }

    private static void refused(String what, Class<? extends RuntimeException> want, On call) {
        refusedOf(Offices.busy(), what, want, call);
    }

    private static void refusedOf(PayLedger x, String what, Class<? extends RuntimeException> want, On call) {
        String before = Offices.seen(x);
        check.refused(what, want, () -> call.act(x));
        check.due(what + " changes nothing", before, Offices.seen(x));
    }
}
