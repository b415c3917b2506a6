/** Promises 15, 16, 18, 21 and 22: sum, deducted, duty, office, count. */
public final class SumsTest {
    private static final Check check = new Check();

    public static void main(String[] args) {
        promise15Sum();
        promise16Deducted();
        promise18Duty();
        promise21Office();
        promise22Count();
        check.end("SumsTest");
    }

    private static void promise15Sum() {
        PayLedger x = Offices.busy();
        x.correct(0, 1, 200000);
        long settled = x.settle(0);
        x.correct(0, 0, 400000);
        for (int what = 0; what <= 7; what++) {
            long want = x.line(0, 0, what) + x.line(0, 1, what);
            check.due("sum(0, " + what + ")", want, x.sum(0, what));
        }
        check.due("how many", 2, x.sum(0, 8));
        check.due("settled", 65050, settled);
        check.due("settled", 65050, x.sum(0, 9));
        check.due("owed", x.sum(0, 6) - x.sum(0, 7) - 65050, x.sum(0, 10));
        check.dueTrue("below 0: too much was paid", x.sum(0, 10) < 0);
        check.due("how many of the other one", 1, x.sum(1, 8));
        check.due("gross of the other one", 700000, x.sum(1, 0));
        check.refused("what -1", Check.ARGUMENT, () -> x.sum(0, -1));
        check.refused("what 11", Check.ARGUMENT, () -> x.sum(0, 11));
        check.refused("no such worker", Check.INDEX, () -> x.sum(2, 11));
        check.refused("no such worker", Check.INDEX, () -> x.sum(-1, 0));
    }

    private static void promise16Deducted() {
        PayLedger x = Offices.busy();
        check.due("early", 25000 + 5000, x.deducted(0, 0));
        check.due("late", 31000 + 6200, x.deducted(0, 1));
        check.due("one that the worker never had", 0, x.deducted(1, 0));
        x.enrol(0, 0, false);
        check.due("one that the worker has no more", 30000, x.deducted(0, 0));
        x.correct(0, 0, 0);
        check.due("after a correction", 5000, x.deducted(0, 0));
        x.settle(0);
        x.close();
        check.due("of this year alone", 0, x.deducted(0, 0));
        check.refused("no such deduction", Check.INDEX, () -> x.deducted(0, 2));
        check.refused("no such deduction", Check.INDEX, () -> x.deducted(0, -1));
        check.refused("no such worker", Check.INDEX, () -> x.deducted(2, 0));
        check.refused("no such worker", Check.INDEX, () -> x.deducted(-1, 0));
    }

    private static void promise18Duty() {
        PayLedger x = Offices.withWorker(12, 0);
        check.due("without pays", 0, x.duty(0));
        x.bonus(1000000);
        x.pay(0, 1000000, false);
        x.pay(0, 500005, true);
        check.due("tax of all income, bonuses too", 200001, x.duty(0));
        x.change(0, 1, 500000);
        check.due("less relief", 100001, x.duty(0));
        x.change(0, 2, 100000);
        check.due("less credit", 1, x.duty(0));
        x.change(0, 2, 100002);
        check.due("not below 0", 0, x.duty(0));
        x.change(0, 2, 0);
        x.change(0, 1, Offices.TRILLION);
        check.due("not below 0", 0, x.duty(0));
        x.change(0, 1, 0);
        x.table();
        x.stage(1, 0, 1000000);
        x.change(0, 4, 1);
        check.due("by the table that the worker has now", 1500005, x.duty(0));
        x.change(0, 1, 1500005);
        check.due("all is relief", 0, x.duty(0));
        x.change(0, 1, 1500004);
        check.due("all but one is relief", 1, x.duty(0));
        x.change(0, 1, 0);
        x.deduction(true, 1, 100000, PayLedger.NONE, 0);
        x.enrol(0, 0, true);
        x.pay(0, 100, false);
        check.due("income is behind the early deductions", 1500095, x.duty(0));
        check.refused("no such worker", Check.INDEX, () -> x.duty(1));
        check.refused("no such worker", Check.INDEX, () -> x.duty(-1));
    }

    private static void promise21Office() {
        PayLedger x = Offices.busy();
        x.correct(0, 0, 450000);
        x.correct(1, 0, 800000);
        x.settle(1);
        for (int what = 0; what <= 10; what++) {
            check.due("office(" + what + ")", x.sum(0, what) + x.sum(1, what), x.office(what));
        }
        check.due("gross", 450000 + 100000 + 800000, x.office(0));
        check.due("how many", 3, x.office(8));
        check.refused("what -1", Check.ARGUMENT, () -> x.office(-1));
        check.refused("what 11", Check.ARGUMENT, () -> x.office(11));
        x.settle(0);
        x.close();
        for (int what = 0; what <= 10; what++) {
            check.due("office(" + what + ") of a new year", 0, x.office(what));
        }
    }

    private static void promise22Count() {
        PayLedger x = Offices.busy();
        long[] due = {2, 2, 2, 1, 3, 4, 250000};
        for (int what = 0; what < due.length; what++) {
            check.due("count(" + what + ")", due[what], x.count(what));
        }
        x.ask(0, 5, false);
        check.due("ask() is not counted", 4, x.count(5));
        x.correct(0, 0, 5);
        check.due("two worked anew", 6, x.count(5));
        x.settle(0);
        x.close();
        check.due("the year", 2, x.count(3));
        check.due("no pays of this year", 0, x.count(4));
        check.due("worked since the beginning", 6, x.count(5));
        for (int what : new int[] {-1, 7, 8, Integer.MAX_VALUE, Integer.MIN_VALUE}) {
            check.due("count(" + what + ")", PayLedger.NONE, x.count(what));
        }
    }
}
