/** Offices that several tests begin with. */
final class Offices {
    static final long BILLION = 1000000000L;
    static final long TRILLION = 1000000000000L;

    private Offices() {
    }

    /** Table 0: 10% from 0 on, 20% above 1000000, 40% above 4000000. */
    static PayLedger withTable() {
        PayLedger x = new PayLedger();
        x.table();
        x.stage(0, 0, 100000);
        x.stage(0, 1000000, 200000);
        x.stage(0, 4000000, 400000);
        return x;
    }

    /** The same with worker 0, of that table. */
    static PayLedger withWorker(int periods, int method) {
        PayLedger x = withTable();
        x.employ(0, periods, method);
        return x;
    }

    /** A table without stages (so no tax but of a bonus), and worker 0 of it, paid twelve times a year. */
    static PayLedger untaxed() {
        PayLedger x = new PayLedger();
        x.table();
        x.employ(0, 12, 0);
        return x;
    }

    /** A table that takes all, and worker 0 of it: by one period a year a pay's duty can be seen to the coin. */
    static PayLedger allTaken(int periods, int method) {
        PayLedger x = new PayLedger();
        x.table();
        x.stage(0, 0, 1000000);
        x.employ(0, periods, method);
        return x;
    }

    /** Table 0 without stages, which no worker has. */
    static PayLedger freeTable() {
        PayLedger x = new PayLedger();
        x.table();
        return x;
    }

    /** Table 0 has twelve stages, the latest one's floor is 110; no worker has it. */
    static PayLedger fullOfStages() {
        PayLedger x = freeTable();
        for (int i = 0; i < 12; i++) {
            x.stage(0, i * 10, 100000 + i);
        }
        return x;
    }

    /** Six tables, eight deductions, ten workers with a pay each and all deductions, in the second year. */
    static PayLedger full() {
        PayLedger x = new PayLedger();
        for (int table = 0; table < 6; table++) {
            x.table();
            x.stage(table, 0, 100000 * table);
        }
        for (int deduction = 0; deduction < 8; deduction++) {
            x.deduction(deduction % 2 == 0, deduction % 3, 1000 + deduction, 5000 + deduction, 100000);
        }
        for (int worker = 0; worker < 10; worker++) {
            x.employ(worker % 5, 12, worker % 2);
            x.enrol(worker, worker % 8, true);
            x.pay(worker, 100000 + worker, false);
        }
        x.close();
        for (int worker = 0; worker < 10; worker++) {
            x.pay(worker, 200000 + worker, worker % 3 == 0);
        }
        return x;
    }

    /** Worker 0 has sixty pays, every fourth one a bonus; worker 1 has one. */
    static PayLedger fullOfPays() {
        PayLedger x = withWorker(12, 1);
        x.employ(0, 52, 0);
        x.deduction(true, 2, 50000, PayLedger.NONE, 3000000);
        x.enrol(0, 0, true);
        x.bonus(300000);
        for (int i = 0; i < 60; i++) {
            x.pay(0, 50000 + i * 1000, i % 4 == 3);
        }
        x.pay(1, 70000, false);
        return x;
    }

    /** Six years have ended, each with a pay of worker 0, who has one more now. */
    static PayLedger fullOfYears() {
        PayLedger x = withWorker(12, 0);
        for (int year = 0; year < 6; year++) {
            x.pay(0, 100000 + year, false);
            x.close();
        }
        x.pay(0, 200000, false);
        return x;
    }

    /** In its second year, with something of everything; nothing is owed. */
    static PayLedger busy() {
        PayLedger x = withWorker(12, 0);
        x.table();
        x.deduction(true, 1, 50000, 300000, 0);
        x.deduction(false, 2, 62000, PayLedger.NONE, 2000000);
        x.enrol(0, 0, true);
        x.enrol(0, 1, true);
        x.bonus(250000);
        x.pay(0, 400000, false);
        x.close();
        x.employ(0, 4, 1);
        x.change(0, 1, 600000);
        x.change(0, 3, 1000);
        x.pay(0, 500000, false);
        x.pay(0, 100000, true);
        x.pay(1, 700000, false);
        return x;
    }
}
