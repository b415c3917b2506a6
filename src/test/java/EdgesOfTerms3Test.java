/** The boundary cases that 'Terms', 3 names: YEARS and STATEMENTS. */
public final class EdgesOfTerms3Test {
    private static final Check check = new Check();

    public static void main(String[] args) {
        check.run(EdgesOfTerms3Test::firstYear);
        check.run(EdgesOfTerms3Test::lastYear);
        check.run(EdgesOfTerms3Test::dutyAtRelief);
        check.run(EdgesOfTerms3Test::dutyAtCredit);
        check.run(EdgesOfTerms3Test::tableJustThen);
        check.run(EdgesOfTerms3Test::yearWithoutPays);
        check.run(EdgesOfTerms3Test::noPaysThen);
        check.run(EdgesOfTerms3Test::nothingSettledThen);
        check.run(EdgesOfTerms3Test::allElseStays);
        check.end("EdgesOfTerms3Test");
    }

    private static void firstYear() {
        check.sentence("A YEAR (0 is the first one)");
        PayLedger x = new PayLedger();
        check.due("the year", 0, x.count(3));
        check.due("close()", 0, x.close());
        check.due("the year then", 1, x.count(3));
        PayLedger y = Offices.allTaken(1, 0);
        check.refused("its statement, ahead of its end", Check.NO_SUCH, () -> y.statement(0, 0, 0));
        y.pay(0, 100, false);
        y.close();
        check.due("its statement", 100, y.statement(0, 0, 0));
    }

    private static void lastYear() {
        check.sentence("6 can end");
        PayLedger x = Offices.untaxed();
        for (int year = 0; year < 6; year++) {
            x.pay(0, 10 + year, false);
            check.due("the year", year, x.count(3));
            check.due("close()", year, x.close());
        }
        check.due("the year that cannot end", 6, x.count(3));
        for (int year = 0; year < 6; year++) {
            check.due("gross of year " + year, 10 + year, x.statement(0, year, 0));
        }
        check.refused("a seventh end", Check.UNSUPPORTED, Offices::fullOfYears, y -> y.close());
        check.due("a pay in that year", 0, x.pay(0, 100, false));
        check.due("put right", 1, x.correct(0, 0, 200));
        check.due("settled", 100, x.settle(0));
        check.due("gross of that year", 200, x.sum(0, 0));
        check.due("gross of the last one that ended", 15, x.statement(0, 5, 0));
    }

    private static void dutyAtRelief() {
        check.sentence("of INCOME's sum less RELIEF (0 at least)");
        long[][] due = {{0, 100}, {1, 99}, {99, 1}, {100, 0}, {101, 0}, {Offices.TRILLION, 0}};
        for (long[] row : due) {
            duty(1, row[0], row[1]);
        }
    }

    private static void dutyAtCredit() {
        check.sentence("DUTY: the TAX less CREDIT (0 at least)");
        long[][] due = {{0, 100}, {1, 99}, {99, 1}, {100, 0}, {101, 0}, {Offices.TRILLION, 0}};
        for (long[] row : due) {
            duty(2, row[0], row[1]);
        }
    }

    /** Two pays of 60 and 40 that nothing was withheld of, then a change. */
    private static void duty(int what, long v, long due) {
        PayLedger x = Offices.allTaken(1, 0);
        x.pay(0, 60, true);
        x.pay(0, 40, true);
        x.change(0, what, v);
        check.due("duty, " + v, due, x.duty(0));
        x.close();
        check.due("duty stated, " + v, due, x.statement(0, 0, 9));
        check.due("basic and more less duty, " + v, -due, x.statement(0, 0, 10));
    }

    private static void tableJustThen() {
        check.sentence("by the TABLE that the WORKER has just then");
        PayLedger x = Offices.allTaken(1, 0);
        x.table();
        x.pay(0, 100, false);
        x.change(0, 4, 1);
        x.close();
        check.due("by the table without stages", 0, x.statement(0, 0, 9));
        check.due("too much was withheld", 100, x.statement(0, 0, 10));
        x.pay(0, 100, false);
        x.change(0, 4, 0);
        x.close();
        check.due("by the table that takes all", 100, x.statement(0, 1, 9));
        check.due("too little was withheld", -100, x.statement(0, 1, 10));
        x.change(0, 4, 1);
        check.due("a later change does not count", 100, x.statement(0, 1, 9));
        check.due("a later change does not count", 0, x.statement(0, 0, 9));
    }

    private static void yearWithoutPays() {
        check.sentence("each WORKER has a STATEMENT of it (a YEAR without PAYS)");
        PayLedger x = Offices.allTaken(1, 0);
        x.change(0, 3, 5);
        check.due("duty", 0, x.duty(0));
        check.due("nothing to settle", 0, x.settle(0));
        check.due("close()", 0, x.close());
        for (int what = 0; what <= 10; what++) {
            check.due("statement(0, 0, " + what + ")", 0, x.statement(0, 0, what));
        }
        x.pay(0, 100, false);
        x.close();
        x.close();
        check.due("between two without pays", 100, x.statement(0, 1, 0));
        for (int what = 0; what <= 10; what++) {
            check.due("statement(0, 2, " + what + ") behind one with pays", 0, x.statement(0, 2, what));
        }
    }

    private static void noPaysThen() {
        check.sentence("Then there are no PAYS");
        PayLedger x = Offices.fullOfPays();
        x.close();
        check.due("pays of the office", 0, x.count(4));
        for (int what = 0; what <= 10; what++) {
            check.due("sum(0, " + what + ")", 0, x.sum(0, what));
            check.due("office(" + what + ")", 0, x.office(what));
        }
        check.due("deducted", 0, x.deducted(0, 0));
        check.due("duty", 0, x.duty(0));
        check.refused("a line", Check.NO_SUCH, () -> x.line(0, 0, 0));
        check.refused("a part", Check.NO_SUCH, () -> x.part(0, 0, 0));
        check.refused("a correction", Check.NO_SUCH, () -> x.correct(0, 59, 0));
        check.due("a new first one", 0, x.pay(0, 100000, false));
        // As the first pay of a year: nothing ahead counts for METHOD 1 nor for the BASE.
        check.due("its part", 5000, x.part(0, 0, 0));
        check.due("its basic", 10667, x.line(0, 0, 3));
    }

    private static void nothingSettledThen() {
        check.sentence("nothing is SETTLED");
        for (long gross : new long[] {0, 200}) {
            PayLedger x = Offices.untaxed();
            x.pay(0, 100, false);
            x.correct(0, 0, gross);
            check.due("settled", gross - 100, x.settle(0));
            x.close();
            check.due("settled then", 0, x.sum(0, 9));
            check.due("owed then", 0, x.sum(0, 10));
            check.due("of the office", 0, x.office(9));
            check.due("it can end at once", 1, x.close());
        }
    }

    private static void allElseStays() {
        check.sentence("all else stays");
        PayLedger x = Offices.withWorker(12, 0);
        x.table();
        x.deduction(true, 0, 1000, PayLedger.NONE, 0);
        x.deduction(false, 0, 2000, PayLedger.NONE, 0);
        x.enrol(0, 1, true);
        x.bonus(250000);
        x.change(0, 1, 200000);
        x.change(0, 2, 60000);
        x.change(0, 3, 123);
        x.pay(0, 100000, false);
        // 1000000 above the RELIEF: 100000 less 60000, by 12 is 3333; 123 and 2000 more.
        check.due("net in the first year", 94544, x.line(0, 0, 6));
        x.close();
        check.due("net in the second year", 94544, x.ask(0, 100000, false));
        check.due("net of a bonus", 75000, x.ask(0, 100000, true));
        check.due("tables", 2, x.count(0));
        check.due("deductions", 2, x.count(1));
        check.due("workers", 1, x.count(2));
        check.due("worked", 1, x.count(5));
        check.due("bonus rate", 250000, x.count(6));
        check.due("tax", 700000, x.tax(0, 4000000));
        check.refused("a stage of the table of a worker", Check.STATE, () -> x.stage(0, 5000000, 0));
        check.due("a stage of a free table", 1, x.stage(1, 0, 0));
        check.dueTrue("enrolled", !x.enrol(0, 1, true));
        check.dueTrue("not enrolled", !x.enrol(0, 0, false));
        x.change(0, 0, 1);
        x.close();
        x.pay(0, 0, false);
        check.due("the method that was changed", 1, x.pay(0, 100000, false));
        // 100000 times 12 by 2 is 600000, less 200000: 40000 less 60000 is not below 0.
        check.due("its basic", 0, x.line(0, 1, 3));
    }
}
