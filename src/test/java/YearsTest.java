/** Promises 19 and 20: close, statement. */
public final class YearsTest {
    private static final Check check = new Check();

    public static void main(String[] args) {
        promise19Close();
        promise19AllElseStays();
        promise19Owed();
        promise20Statement();
        promise20WhoCameLater();
        promise20TableOfTheEnd();
        promise20Wrong();
        check.end("YearsTest");
    }

    private static void promise19Close() {
        PayLedger x = Offices.untaxed();
        for (int year = 0; year < 6; year++) {
            check.due("the year", year, x.count(3));
            x.pay(0, 100 + year, false);
            check.due("close()", year, x.close());
            check.due("no pays", 0, x.sum(0, 8));
        }
        check.due("the year", 6, x.count(3));
        check.due("a pay in the seventh year", 0, x.pay(0, 100, false));
        check.refused("a seventh end", Check.UNSUPPORTED, () -> x.close());
        x.correct(0, 0, 200);
        check.refused("owed in the seventh year", Check.STATE, () -> x.close());
        x.settle(0);
        check.refused("a seventh end", Check.UNSUPPORTED, () -> x.close());
        for (int year = 0; year < 6; year++) {
            check.due("gross of year " + year, 100 + year, x.statement(0, year, 0));
        }
        check.refused("the seventh year has not ended", Check.NO_SUCH, () -> x.statement(0, 6, 0));
        check.due("an office without workers", 0, new PayLedger().close());
    }

    private static void promise19AllElseStays() {
        PayLedger x = Offices.busy();
        x.correct(0, 0, 600000);
        x.settle(0);
        x.close();
        check.due("nothing is settled", 0, x.sum(0, 9));
        check.due("nothing is owed", 0, x.sum(0, 10));
        check.due("tables", 2, x.count(0));
        check.due("deductions", 2, x.count(1));
        check.due("workers", 2, x.count(2));
        check.due("bonus rate", 250000, x.count(6));
        check.due("the first pay", 0, x.pay(0, 500000, false));
        long[] due = {500000, 25000, 475000, 95000, 1000, 31000, 348000, 348000, 0};
        for (int what = 0; what < due.length; what++) {
            check.due("line " + what, due[what], x.line(0, 0, what));
        }
        check.due("a pay of method 1, without those of the year before", 0, x.pay(1, 250000, false));
        check.due("its basic", 25000, x.line(1, 0, 3));
    }

    private static void promise19Owed() {
        PayLedger x = Offices.untaxed();
        x.employ(0, 12, 0);
        x.pay(0, 1000, false);
        x.pay(1, 1000, false);
        x.correct(0, 0, 1100);
        check.refused("owed to one", Check.STATE, () -> x.close());
        x.correct(1, 0, 900);
        check.due("the office's sum hides it", 0, x.office(10));
        check.refused("owed to one and by the other", Check.STATE, () -> x.close());
        x.settle(0);
        check.refused("owed by the other", Check.STATE, () -> x.close());
        check.due("no year has ended", 0, x.count(3));
        x.settle(1);
        check.due("close()", 0, x.close());
        check.due("paid as it came first", 1000, x.statement(0, 0, 7));
        check.due("net as it was put right", 1100, x.statement(0, 0, 6));
    }

    private static void promise20Statement() {
        PayLedger x = Offices.busy();
        long[] sums = new long[9];
        for (int what = 0; what <= 8; what++) {
            sums[what] = x.sum(0, what);
        }
        long duty = x.duty(0);
        x.close();
        for (int what = 0; what <= 8; what++) {
            check.due("statement(0, 1, " + what + ")", sums[what], x.statement(0, 1, what));
        }
        check.due("duty", duty, x.statement(0, 1, 9));
        check.due("basic and more less duty", 95000 + 23750 + 1000 - duty, x.statement(0, 1, 10));
        // Year 0: 12 times 380000 is 4560000: 924000, by 12; no relief then.
        long[] first = {400000, 20000, 380000, 77000, 0, 24800, 278200, 278200, 1, 38000, 39000};
        for (int what = 0; what < first.length; what++) {
            check.due("statement(0, 0, " + what + ")", first[what], x.statement(0, 0, what));
        }
        x.change(0, 1, 0);
        x.change(0, 2, 5);
        x.pay(0, 999999, false);
        check.due("what ended stays as it was", duty, x.statement(0, 1, 9));
        PayLedger y = Offices.untaxed();
        y.table();
        y.stage(1, 0, 1000000);
        y.pay(0, 100, false);
        y.change(0, 4, 1);
        y.close();
        check.due("too little was withheld", -100, y.statement(0, 0, 10));
    }

    private static void promise20WhoCameLater() {
        PayLedger x = Offices.busy();
        for (int what = 0; what <= 10; what++) {
            check.due("statement(1, 0, " + what + ")", 0, x.statement(1, 0, what));
        }
        x.close();
        check.due("gross of the year of coming", 700000, x.statement(1, 1, 0));
        x.close();
        for (int what = 0; what <= 10; what++) {
            check.due("a year without pays, " + what, 0, x.statement(1, 2, what));
        }
    }

    private static void promise20TableOfTheEnd() {
        PayLedger x = Offices.withWorker(1, 0);
        x.table();
        x.stage(1, 0, 900000);
        x.pay(0, 1000, false);
        x.change(0, 4, 1);
        x.change(0, 1, 100);
        x.change(0, 2, 10);
        x.close();
        check.due("table, relief and credit of the end", 800, x.statement(0, 0, 9));
        check.due("basic less duty", 100 - 800, x.statement(0, 0, 10));
    }

    private static void promise20Wrong() {
        PayLedger x = Offices.busy();
        check.refused("this year", Check.NO_SUCH, () -> x.statement(0, 1, 11));
        check.refused("year -1", Check.NO_SUCH, () -> x.statement(0, -1, 0));
        check.refused("year 6", Check.NO_SUCH, () -> x.statement(0, 6, 0));
        check.refused("what -1", Check.ARGUMENT, () -> x.statement(0, 0, -1));
        check.refused("what 11", Check.ARGUMENT, () -> x.statement(0, 0, 11));
        check.refused("no such worker", Check.INDEX, () -> x.statement(2, 1, 11));
        check.refused("no such worker", Check.INDEX, () -> x.statement(-1, 0, 0));
    }
}
