/** The boundary cases of promises 15, 17, 18, 21 and 22: sum, settle, duty, office, count. */
public final class EdgesOfSumsTest {
    private static final Check check = new Check();

    public static void main(String[] args) {
        check.run(EdgesOfSumsTest::sums);
        check.run(EdgesOfSumsTest::anotherWhatOfSum);
        check.run(EdgesOfSumsTest::settleOwed);
        check.run(EdgesOfSumsTest::settleOneAlone);
        check.run(EdgesOfSumsTest::duty);
        check.run(EdgesOfSumsTest::dutyWithoutPays);
        check.run(EdgesOfSumsTest::offices);
        check.run(EdgesOfSumsTest::anotherWhatOfOffice);
        check.run(EdgesOfSumsTest::counts);
        check.run(EdgesOfSumsTest::workedSinceTheBeginning);
        check.run(EdgesOfSumsTest::noneForAnotherWhat);
        check.end("EdgesOfSumsTest");
    }

    /** Worker 0 was settled with once and is owed something again; worker 1 owes something. */
    private static PayLedger owing() {
        PayLedger x = Offices.busy();
        x.correct(0, 1, 200000);
        x.settle(0);
        x.correct(0, 1, 300000);
        x.correct(1, 0, 600000);
        return x;
    }

    private static void sums() {
        check.sentence("15: what 0 to 7 as of line(), 8 how many, 9 what was SETTLED, 10 what is OWED");
        PayLedger x = owing();
        // A bonus of 300000: 15000 early, a quarter of 285000, 18600 late.
        long[] due = {800000, 40000, 760000, 166250, 1000, 49600, 543150, 413050, 2, 65050, 65050};
        for (int what = 0; what <= 10; what++) {
            check.due("sum(0, " + what + ")", due[what], x.sum(0, what));
        }
        PayLedger y = Offices.untaxed();
        for (int what = 0; what <= 10; what++) {
            check.due("without pays, sum(0, " + what + ")", 0, y.sum(0, what));
        }
    }

    private static void anotherWhatOfSum() {
        check.sentence("15: IllegalArgumentException: another what");
        for (int worker = 0; worker <= 1; worker++) {
            int w = worker;
            Check.Numbered call = (x, what) -> x.sum(w, (int) what);
            check.takenEach("what", EdgesOfSumsTest::owing, call, 0, 10);
            check.refusedEach("what", Check.ARGUMENT, EdgesOfSumsTest::owing, call,
                    Integer.MIN_VALUE, -2, -1, 11, 12, Integer.MAX_VALUE);
        }
    }

    private static void settleOwed() {
        check.sentence("17: What is OWED to a WORKER is SETTLED: that");
        PayLedger x = Offices.untaxed();
        check.due("nothing, without pays", 0, x.settle(0));
        x.pay(0, 100, false);
        check.due("nothing, as it was paid", 0, x.settle(0));
        long[][] due = {{101, 1}, {101, 0}, {99, -2}, {0, -99}, {Offices.BILLION, Offices.BILLION}, {100, -999999900}};
        for (long[] row : due) {
            x.correct(0, 0, row[0]);
            check.due("settle() at " + row[0], row[1], x.settle(0));
            check.due("once more", 0, x.settle(0));
            check.due("settled in all", row[0] - 100, x.sum(0, 9));
            check.due("owed", 0, x.sum(0, 10));
        }
    }

    private static void settleOneAlone() {
        check.sentence("17: What is OWED to a WORKER (of no other)");
        PayLedger x = owing();
        long other = x.sum(1, 10);
        check.due("settle(0)", 65050, x.settle(0));
        check.due("the other one is owed as before", other, x.sum(1, 10));
        check.due("nothing is settled with the other one", 0, x.sum(1, 9));
        check.dueTrue("too much was paid to the other one", other < 0);
        check.due("settle(1)", other, x.settle(1));
        check.due("nothing is owed by the office", 0, x.office(10));
    }

    private static void duty() {
        check.sentence("18: DUTY that a STATEMENT would tell, if the YEAR ended now");
        for (int what = 1; what <= 2; what++) {
            for (long v : new long[] {0, 99, 100, 101}) {
                PayLedger x = Offices.allTaken(1, 0);
                x.pay(0, 60, true);
                x.pay(0, 40, false);
                x.change(0, what, v);
                long duty = x.duty(0);
                check.due("duty, " + v, Math.max(0, 100 - v), duty);
                x.close();
                check.due("duty stated, " + v, duty, x.statement(0, 0, 9));
                check.due("duty of the next year", 0, x.duty(0));
            }
        }
        check.due("duty tells nothing afterwards", "", Twins.difference(EdgesOfSumsTest::owing, x -> x.duty(0)));
    }

    private static void dutyWithoutPays() {
        check.sentence("18: DUTY, if the YEAR ended now (without PAYS)");
        PayLedger x = Offices.allTaken(52, 1);
        check.due("duty", 0, x.duty(0));
        x.ask(0, 100, false);
        check.due("a pay asked for does not count", 0, x.duty(0));
        x.pay(0, 1, false);
        check.due("duty of one coin", 1, x.duty(0));
    }

    private static void offices() {
        check.sentence("21: Over all WORKERS, of this YEAR: what 0 to 10 as of sum()");
        PayLedger x = Offices.untaxed();
        for (int worker = 0; worker < 10; worker++) {
            if (worker > 0) {
                x.employ(0, 12, 0);
            }
            x.pay(worker, 1000, false);
            x.correct(worker, 0, 1000 + (worker < 5 ? 1 << worker : -(1 << worker)));
            if (worker % 2 == 1) {
                x.settle(worker);
            }
        }
        // The even ones are owed 1, 4 and 16, and owe 64 and 256; the odd ones got 2 and 8, and gave 32, 128 and 512.
        long[] due = {9039, 0, 9039, 0, 0, 0, 9039, 10000, 10, 10 - 672, 21 - 320};
        for (int what = 0; what <= 10; what++) {
            check.due("office(" + what + ")", due[what], x.office(what));
        }
        PayLedger y = Offices.full();
        for (int what = 0; what <= 10; what++) {
            long sum = 0;
            for (int worker = 0; worker < 10; worker++) {
                sum += y.sum(worker, what);
            }
            check.due("office(" + what + ") of ten workers", sum, y.office(what));
        }
        y.close();
        check.due("of this year alone", 0, y.office(0));
    }

    private static void anotherWhatOfOffice() {
        check.sentence("21: IllegalArgumentException: another what");
        for (Twins.Maker maker : new Twins.Maker[] {PayLedger::new, EdgesOfSumsTest::owing}) {
            Check.Numbered call = (x, what) -> x.office((int) what);
            check.takenEach("what", maker, call, 0, 10);
            check.refusedEach("what", Check.ARGUMENT, maker, call,
                    Integer.MIN_VALUE, -2, -1, 11, 12, Integer.MAX_VALUE);
        }
    }

    private static void counts() {
        check.sentence("22: 0 TABLES, 1 DEDUCTIONS, 2 WORKERS, 3 the YEAR, 4 PAYS of this YEAR, 6 the BONUS RATE");
        PayLedger x = Offices.full();
        x.bonus(1000000);
        long[] due = {6, 8, 10, 1, 10, 20, 1000000};
        for (int what = 0; what <= 6; what++) {
            check.due("count(" + what + ")", due[what], x.count(what));
        }
        PayLedger y = Offices.fullOfPays();
        check.due("pays of two workers", 61, y.count(4));
        y.close();
        check.due("pays of the next year", 0, y.count(4));
        check.due("the year", 6, Offices.fullOfYears().count(3));
    }

    private static void workedSinceTheBeginning() {
        check.sentence("22: 5 PAYS that were worked since the beginning (also anew, not by ask())");
        PayLedger x = Offices.untaxed();
        check.due("none", 0, x.count(5));
        x.ask(0, 100, false);
        check.due("not by ask()", 0, x.count(5));
        x.pay(0, 100, false);
        x.pay(0, 100, true);
        check.due("by pay()", 2, x.count(5));
        x.correct(0, 0, 100);
        check.due("anew, both", 4, x.count(5));
        x.correct(0, 1, 100);
        check.due("anew, the second", 5, x.count(5));
        check.refused("no such pay", Check.NO_SUCH, () -> x.correct(0, 2, 100));
        check.refused("no such gross", Check.ARGUMENT, () -> x.correct(0, 0, -1));
        check.refused("no such gross", Check.ARGUMENT, () -> x.pay(0, -1, false));
        check.due("not by what is refused", 5, x.count(5));
        x.settle(0);
        x.duty(0);
        x.close();
        check.due("not by the end of the year", 5, x.count(5));
        x.pay(0, 100, false);
        check.due("the years before count", 6, x.count(5));
    }

    private static void noneForAnotherWhat() {
        check.sentence("22: NONE for another what");
        for (Twins.Maker maker : new Twins.Maker[] {PayLedger::new, Offices::full}) {
            for (int what : new int[] {Integer.MIN_VALUE, -2, -1, 7, 8, 10, Integer.MAX_VALUE}) {
                check.due("count(" + what + ")", -1, maker.make().count(what));
            }
            check.dueTrue("count(0) is none of them", maker.make().count(0) >= 0);
            check.dueTrue("count(6) is none of them", maker.make().count(6) >= 0);
        }
        check.due("NONE", -1, PayLedger.NONE);
    }
}
