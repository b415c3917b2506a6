/** Offices that several tests begin with, and all that can be seen of one. */
final class Offices {
    static final long BILLION = 1000000000L;
    static final long TRILLION = 1000000000000L;

    private Offices() {
    }

    /** Table 0: 10% from 0 on, 20% above 1000000, 40% above 4000000. */
    static PayLedger withTable() {
        PayLedger x = new PayLedger();
        x.table();
        x.stage(0, 0, 100000);
        x.stage(0, 1000000, 200000);
        x.stage(0, 4000000, 400000);
        return x;
    }

    /** The same with worker 0, of that table. */
    static PayLedger withWorker(int periods, int method) {
        PayLedger x = withTable();
        x.employ(0, periods, method);
        return x;
    }

    /** A table without stages (so no tax but of a bonus), and worker 0 of it, paid twelve times a year. */
    static PayLedger untaxed() {
        PayLedger x = new PayLedger();
        x.table();
        x.employ(0, 12, 0);
        return x;
    }

    /** Two years old, with something of everything; all is settled. */
    static PayLedger busy() {
        PayLedger x = withWorker(12, 0);
        x.table();
        x.deduction(true, 1, 50000, 300000, 0);
        x.deduction(false, 2, 62000, PayLedger.NONE, 2000000);
        x.enrol(0, 0, true);
        x.enrol(0, 1, true);
        x.bonus(250000);
        x.pay(0, 400000, false);
        x.close();
        x.employ(0, 4, 1);
        x.change(0, 1, 600000);
        x.change(0, 3, 1000);
        x.pay(0, 500000, false);
        x.pay(0, 100000, true);
        x.pay(1, 700000, false);
        return x;
    }

    /** All that can be seen of an office, one answer behind the other. */
    static String seen(PayLedger x) {
        StringBuilder text = new StringBuilder();
        for (int what = 0; what <= 6; what++) {
            text.append(x.count(what)).append(' ');
        }
        for (int table = 0; table < x.count(0); table++) {
            text.append("| ").append(x.tax(table, 12345678)).append(' ');
        }
        for (int worker = 0; worker < x.count(2); worker++) {
            text.append("\nworker ").append(worker).append(' ');
            seeWorker(x, worker, text);
        }
        return text.toString();
    }

    private static void seeWorker(PayLedger x, int worker, StringBuilder text) {
        for (int what = 0; what <= 10; what++) {
            text.append(x.sum(worker, what)).append(' ');
        }
        text.append(x.duty(worker)).append(' ');
        if (x.sum(worker, 8) < 60) {
            text.append(x.ask(worker, 7654321, false)).append(' ').append(x.ask(worker, 7654321, true));
        }
        for (int pay = 0; pay < x.sum(worker, 8); pay++) {
            for (int what = 0; what <= 8; what++) {
                text.append(' ').append(x.line(worker, pay, what));
            }
        }
        for (int deduction = 0; deduction < x.count(1); deduction++) {
            text.append(' ').append(x.deducted(worker, deduction));
        }
        for (int year = 0; year < x.count(3); year++) {
            for (int what = 0; what <= 10; what++) {
                text.append(' ').append(x.statement(worker, year, what));
            }
        }
    }
}
