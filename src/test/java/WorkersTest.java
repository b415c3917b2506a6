/** Promises 6, 7 and 9: employ, change, bonus. */
public final class WorkersTest {
    private static final Check check = new Check();

    public static void main(String[] args) {
        promise6Employ();
        promise6Wrong();
        promise7Change();
        promise7StaysWithPays();
        promise7Wrong();
        promise9Bonus();
        check.end("WorkersTest");
    }

    private static void promise6Employ() {
        PayLedger x = Offices.withTable();
        int[] periods = {1, 2, 4, 12, 13, 24, 26, 52, 1, 52};
        for (int i = 0; i < periods.length; i++) {
            check.due("employ", i, x.employ(0, periods[i], i % 2));
            check.due("workers", i + 1, x.count(2));
        }
        // 100000 a period: the tax of the year, by its periods.
        long[] nets = {90000, 90000, 90000, 88333, 87692, 84167, 83846, 77308, 90000, 77308};
        for (int i = 0; i < nets.length; i++) {
            check.due("net of worker " + i, nets[i], x.ask(i, 100000, false));
        }
        check.refused("an eleventh", Check.UNSUPPORTED, () -> x.employ(0, 12, 0));
        check.refused("an eleventh, wrong", Check.ARGUMENT, () -> x.employ(0, 12, 2));
        check.refused("an eleventh, without a table", Check.INDEX, () -> x.employ(1, 12, 0));
    }

    private static void promise6Wrong() {
        PayLedger x = Offices.withTable();
        for (int periods : new int[] {-1, 0, 3, 5, 11, 14, 25, 27, 51, 53, 365, Integer.MAX_VALUE}) {
            check.refused("periods " + periods, Check.ARGUMENT, () -> x.employ(0, periods, 0));
        }
        check.refused("method -1", Check.ARGUMENT, () -> x.employ(0, 12, -1));
        check.refused("method 2", Check.ARGUMENT, () -> x.employ(0, 12, 2));
        check.refused("no such table", Check.INDEX, () -> x.employ(1, 3, 2));
        check.refused("no such table", Check.INDEX, () -> x.employ(-1, 12, 0));
        check.due("the table is still free", 4, x.stage(0, 5000000, 0));
    }

    private static void promise7Change() {
        PayLedger x = Offices.withWorker(12, 0);
        x.table();
        x.stage(1, 0, 500000);
        check.due("at first", 88333, x.ask(0, 100000, false));
        x.change(0, 1, 200000);
        check.due("relief", 91667, x.ask(0, 100000, false));
        x.change(0, 2, 60000);
        check.due("credit", 96667, x.ask(0, 100000, false));
        x.change(0, 3, 123);
        check.due("extra", 96544, x.ask(0, 100000, false));
        check.due("no extra of a bonus", 100000, x.ask(0, 100000, true));
        x.change(0, 4, 1);
        check.due("table", 63210, x.ask(0, 100000, false));
        x.change(0, 5, 1);
        check.due("periods: all is relief", 99877, x.ask(0, 100000, false));
        x.change(0, 1, Offices.TRILLION);
        x.change(0, 2, Offices.TRILLION);
        x.change(0, 3, Offices.BILLION);
        check.due("the most of each", 0, x.ask(0, 100000, false));
        x.change(0, 1, 0);
        x.change(0, 2, 0);
        x.change(0, 3, 0);
        check.due("none of each", 50000, x.ask(0, 100000, false));
        PayLedger y = Offices.withWorker(1, 0);
        y.pay(0, 2000000, false);
        check.due("method 0", 1700000, y.line(0, 0, 6));
        y.change(0, 0, 1);
        // Method 1: the year's tax of the mean 1000000 is 100000, twice that less the 300000 ahead.
        check.due("method 1", 0, y.ask(0, 0, false));
        check.due("method 1", 2000000, y.ask(0, 2000000, false) + 300000);
        y.change(0, 0, 0);
        check.due("method 0 again", 1700000, y.ask(0, 2000000, false));
    }

    private static void promise7StaysWithPays() {
        PayLedger x = Offices.withWorker(12, 0);
        x.table();
        x.stage(1, 0, 500000);
        x.pay(0, 100000, false);
        x.change(0, 0, 1);
        x.change(0, 1, 200000);
        x.change(0, 2, 60000);
        x.change(0, 3, 123);
        x.change(0, 4, 1);
        x.change(0, 5, 1);
        check.due("nothing of it is worked anew", 88333, x.line(0, 0, 6));
        check.due("put right with what stayed with it", 0, x.correct(0, 0, 100000));
        check.due("put right with what stayed with it", 88333, x.line(0, 0, 6));
        x.correct(0, 0, 200000);
        check.due("put right with what stayed with it", 200000 - 31667, x.line(0, 0, 6));
    }

    private static void promise7Wrong() {
        PayLedger x = Offices.withWorker(12, 0);
        long[][] wrong = {{-1, 0}, {6, 0}, {Integer.MIN_VALUE, 1}, {0, -1}, {0, 2}, {0, 1L << 32},
            {1, -1}, {1, Offices.TRILLION + 1}, {2, -1}, {2, Offices.TRILLION + 1},
            {3, -1}, {3, Offices.BILLION + 1}, {5, 0}, {5, 3}, {5, -12}, {5, (1L << 32) + 12}};
        for (long[] row : wrong) {
            check.refused("change " + java.util.Arrays.toString(row), Check.ARGUMENT,
                    () -> x.change(0, (int) row[0], row[1]));
        }
        for (long table : new long[] {-1, 1, 6, 1L << 32, Long.MAX_VALUE, Long.MIN_VALUE}) {
            check.refused("no such table " + table, Check.INDEX, () -> x.change(0, 4, table));
        }
        check.refused("no such worker", Check.INDEX, () -> x.change(1, 6, 0));
        check.refused("no such worker", Check.INDEX, () -> x.change(-1, 0, 0));
        check.refused("no such worker", Check.INDEX, () -> x.change(10, 0, 0));
        check.due("all as before", 88333, x.ask(0, 100000, false));
    }

    private static void promise9Bonus() {
        PayLedger x = Offices.withWorker(12, 0);
        check.due("0 at first", 0, x.count(6));
        check.due("no tax of a bonus", 1000, x.ask(0, 1000, true));
        x.bonus(250000);
        check.due("the rate", 250000, x.count(6));
        check.due("a quarter, rounded", 1, x.ask(0, 2, true));
        check.due("a quarter, rounded", 1, x.ask(0, 1, true));
        x.pay(0, 1000, true);
        x.bonus(1000000);
        check.due("all", 0, x.ask(0, 1000, true));
        check.due("the pay that came keeps its rate", 750, x.line(0, 0, 6));
        x.correct(0, 0, 2000);
        check.due("the pay put right keeps its rate", 1500, x.line(0, 0, 6));
        check.refused("rate -1", Check.ARGUMENT, () -> x.bonus(-1));
        check.refused("rate 1000001", Check.ARGUMENT, () -> x.bonus(1000001));
        check.due("the rate as before", 1000000, x.count(6));
        x.bonus(0);
        check.due("none", 1000, x.ask(0, 1000, true));
    }
}
