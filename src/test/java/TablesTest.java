/** Promises 1 to 4: a new object, table, stage, tax. */
public final class TablesTest {
    private static final Check check = new Check();

    public static void main(String[] args) {
        promise1NewObject();
        promise2Table();
        promise3Stage();
        promise3Wrong();
        promise4Tax();
        promise4Wrong();
        check.end("TablesTest");
    }

    private static void promise1NewObject() {
        PayLedger x = new PayLedger();
        for (int what = 0; what <= 6; what++) {
            check.due("count(" + what + ") of a new object", 0, x.count(what));
        }
        for (int what = 0; what <= 10; what++) {
            check.due("office(" + what + ") of a new object", 0, x.office(what));
        }
        check.refused("tax without tables", Check.INDEX, () -> x.tax(0, 0));
        check.refused("sum without workers", Check.INDEX, () -> x.sum(0, 0));
        check.due("NONE", -1, PayLedger.NONE);
    }

    private static void promise2Table() {
        PayLedger x = new PayLedger();
        for (int number = 0; number < 6; number++) {
            check.due("table()", number, x.table());
            check.due("tables", number + 1, x.count(0));
            check.due("tax of a table without stages", 0, x.tax(number, Offices.TRILLION));
        }
        check.refused("a seventh table", Check.UNSUPPORTED, () -> x.table());
        check.due("tables", 6, x.count(0));
    }

    private static void promise3Stage() {
        PayLedger x = new PayLedger();
        x.table();
        x.table();
        check.due("first stage", 1, x.stage(0, 0, 0));
        for (int i = 2; i <= 11; i++) {
            check.due("stage " + i, i, x.stage(0, i, 1000000));
        }
        check.due("the other table's first", 1, x.stage(1, 0, 1000000));
        check.due("twelfth stage, highest floor", 12, x.stage(0, Offices.TRILLION, 5));
        check.refused("a thirteenth above the highest floor", Check.ARGUMENT,
                () -> x.stage(0, Offices.TRILLION + 1, 5));
        PayLedger y = new PayLedger();
        y.table();
        for (int i = 0; i < 12; i++) {
            y.stage(0, i, 500000);
        }
        check.refused("a thirteenth", Check.UNSUPPORTED, () -> y.stage(0, 12, 5));
        check.refused("a thirteenth with a wrong floor", Check.ARGUMENT, () -> y.stage(0, 11, 5));
        y.employ(0, 1, 0);
        check.refused("a thirteenth of a table that a worker has", Check.STATE, () -> y.stage(0, 12, 5));
    }

    private static void promise3Wrong() {
        PayLedger x = new PayLedger();
        check.refused("no table", Check.INDEX, () -> x.stage(0, 5, -1));
        x.table();
        x.table();
        for (int table : new int[] {-1, 2, 6, Integer.MAX_VALUE, Integer.MIN_VALUE}) {
            check.refused("no such table " + table, Check.INDEX, () -> x.stage(table, 0, 0));
        }
        check.refused("first floor 1", Check.ARGUMENT, () -> x.stage(0, 1, 0));
        check.refused("first floor -1", Check.ARGUMENT, () -> x.stage(0, -1, 0));
        check.refused("rate -1", Check.ARGUMENT, () -> x.stage(0, 0, -1));
        check.refused("rate 1000001", Check.ARGUMENT, () -> x.stage(0, 0, 1000001));
        x.stage(0, 0, 1000000);
        x.stage(0, 50, 0);
        check.refused("the same floor", Check.ARGUMENT, () -> x.stage(0, 50, 0));
        check.refused("a floor below", Check.ARGUMENT, () -> x.stage(0, 49, 0));
        check.refused("a floor of 0 again", Check.ARGUMENT, () -> x.stage(0, 0, 0));
        check.refused("a floor too high", Check.ARGUMENT, () -> x.stage(0, Offices.TRILLION + 1, 0));
        check.due("tax as before", 50, x.tax(0, 1000));
        int w = x.employ(0, 12, 0);
        check.refused("a worker has it", Check.STATE, () -> x.stage(0, 60, 0));
        check.refused("a worker has it, wrong rate", Check.ARGUMENT, () -> x.stage(0, 60, -1));
        check.due("the other one is free", 1, x.stage(1, 0, 0));
        x.change(w, 4, 1);
        check.refused("a worker had it", Check.STATE, () -> x.stage(0, 60, 0));
        check.refused("a worker has it by change", Check.STATE, () -> x.stage(1, 60, 0));
    }

    private static void promise4Tax() {
        PayLedger x = Offices.withTable();
        long[][] due = {{0, 0}, {4, 0}, {5, 1}, {14, 1}, {15, 2}, {1000000, 100000}, {1000002, 100000},
            {1000003, 100001}, {1000005, 100001}, {4000000, 700000}, {4000001, 700000}, {4000002, 700001},
            {5000000, 1100000}, {Offices.TRILLION, 399999100000L}};
        for (long[] row : due) {
            check.due("tax of " + row[0], row[1], x.tax(0, row[0]));
        }
        PayLedger y = new PayLedger();
        y.table();
        y.stage(0, 0, 1000000);
        check.due("all of the highest amount", Offices.TRILLION, y.tax(0, Offices.TRILLION));
        y.table();
        y.stage(1, 0, 499999);
        check.due("just below a half", 0, y.tax(1, 1));
        y.table();
        y.stage(2, 0, 500000);
        check.due("a half is rounded up", 1, y.tax(2, 1));
        check.due("a whole one", 1, y.tax(2, 2));
        // 3 times 1/3 rounded at each stage would be 0; added up exactly it is 1.
        PayLedger z = new PayLedger();
        z.table();
        z.stage(0, 0, 333333);
        z.stage(0, 1, 333333);
        z.stage(0, 2, 333334);
        check.due("stages are added up ahead of rounding", 1, z.tax(0, 3));
        check.due("stages are added up ahead of rounding", 1, z.tax(0, 2));
        check.due("stages are added up ahead of rounding", 0, z.tax(0, 1));
    }

    private static void promise4Wrong() {
        PayLedger x = Offices.withTable();
        check.refused("amount -1", Check.ARGUMENT, () -> x.tax(0, -1));
        check.refused("amount too high", Check.ARGUMENT, () -> x.tax(0, Offices.TRILLION + 1));
        check.refused("the lowest long", Check.ARGUMENT, () -> x.tax(0, Long.MIN_VALUE));
        check.refused("no such table", Check.INDEX, () -> x.tax(1, -1));
        check.refused("no such table", Check.INDEX, () -> x.tax(-1, 0));
        check.refused("no such table", Check.INDEX, () -> x.tax(6, 0));
    }
}
