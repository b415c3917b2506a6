/** Promises 12 and 17: correct, settle; and what is owed. */
public final class CorrectTest {
    private static final Check check = new Check();

    public static void main(String[] args) {
        promise12Correct();
        promise12AllBehind();
        promise12Bonus();
        promise12Wrong();
        promise17Settle();
        promise17TooMuchPaid();
        check.end("CorrectTest");
    }

    private static void promise12Correct() {
        PayLedger x = Offices.withWorker(12, 0);
        x.pay(0, 100000, false);
        x.pay(0, 100000, false);
        check.due("worked", 2, x.count(5));
        check.due("method 0: it alone is another one", 1, x.correct(0, 0, 50000));
        check.due("both were worked anew", 4, x.count(5));
        check.due("gross", 50000, x.line(0, 0, 0));
        check.due("net", 45000, x.line(0, 0, 6));
        check.due("paid stays", 88333, x.line(0, 0, 7));
        check.due("the same gross again", 0, x.correct(0, 0, 50000));
        check.due("worked all the same", 6, x.count(5));
        check.due("the last one", 1, x.correct(0, 1, 0));
        check.due("none ahead of it is worked", 7, x.count(5));
        check.due("back again", 1, x.correct(0, 1, 100000));
        check.due("no pay came or went", 2, x.count(4));
        check.due("net as paid", 88333, x.line(0, 1, 6));
    }

    private static void promise12AllBehind() {
        PayLedger x = Offices.withWorker(12, 1);
        x.deduction(false, 2, 100000, PayLedger.NONE, 250000);
        x.enrol(0, 0, true);
        for (int i = 0; i < 4; i++) {
            x.pay(0, 100000, false);
        }
        PayLedger fresh = Offices.withWorker(12, 1);
        fresh.deduction(false, 2, 100000, PayLedger.NONE, 250000);
        fresh.enrol(0, 0, true);
        fresh.pay(0, 100000, false);
        fresh.pay(0, 300000, false);
        fresh.pay(0, 100000, false);
        fresh.pay(0, 100000, false);
        check.due("two of four are others, the last one is as before", 2, x.correct(0, 1, 300000));
        check.due("worked", 7, x.count(5));
        for (int pay = 0; pay < 4; pay++) {
            for (int what = 0; what <= 6; what++) {
                check.due("line " + what + " of pay " + pay, fresh.line(0, pay, what), x.line(0, pay, what));
            }
            check.due("part of pay " + pay, fresh.part(0, pay, 0), x.part(0, pay, 0));
        }
        check.due("both back", 2, x.correct(0, 1, 100000));
        check.due("nothing is owed", 0, x.sum(0, 10));
    }

    private static void promise12Bonus() {
        PayLedger x = Offices.withWorker(12, 1);
        x.bonus(500000);
        x.pay(0, 100000, true);
        x.pay(0, 100000, false);
        check.due("a usual one does not see a bonus", 1, x.correct(0, 0, 40000));
        check.due("it stays a bonus", 1, x.line(0, 0, 8));
        check.due("half of it", 20000, x.line(0, 0, 6));
    }

    private static void promise12Wrong() {
        PayLedger x = Offices.withWorker(12, 0);
        check.refused("no pays", Check.NO_SUCH, () -> x.correct(0, 0, -1));
        x.ask(0, 5, false);
        check.refused("one that was only asked for", Check.NO_SUCH, () -> x.correct(0, 0, 1));
        x.pay(0, 100000, false);
        check.refused("no such pay", Check.NO_SUCH, () -> x.correct(0, 1, -1));
        check.refused("no such pay", Check.NO_SUCH, () -> x.correct(0, -1, 5));
        check.refused("no such pay", Check.NO_SUCH, () -> x.correct(0, Integer.MAX_VALUE, 5));
        check.refused("gross -1", Check.ARGUMENT, () -> x.correct(0, 0, -1));
        check.refused("gross too high", Check.ARGUMENT, () -> x.correct(0, 0, Offices.BILLION + 1));
        check.refused("no such worker", Check.INDEX, () -> x.correct(1, 5, -1));
        check.refused("no such worker", Check.INDEX, () -> x.correct(-1, 0, 5));
        check.due("nothing was worked anew", 1, x.count(5));
        check.due("the highest gross", 1, x.correct(0, 0, Offices.BILLION));
        x.settle(0);
        x.close();
        check.refused("a pay of a year that ended", Check.NO_SUCH, () -> x.correct(0, 0, 5));
    }

    private static void promise17Settle() {
        PayLedger x = Offices.untaxed();
        check.due("nothing owed", 0, x.settle(0));
        x.pay(0, 1000, false);
        check.due("nothing owed", 0, x.settle(0));
        x.correct(0, 0, 1500);
        check.due("owed", 500, x.sum(0, 10));
        check.due("settled", 500, x.settle(0));
        check.due("owed then", 0, x.sum(0, 10));
        check.due("settled in all", 500, x.sum(0, 9));
        check.due("once is enough", 0, x.settle(0));
        x.correct(0, 0, 1600);
        check.due("owed again", 100, x.settle(0));
        check.due("settled in all", 600, x.sum(0, 9));
        check.due("paid stays", 1000, x.line(0, 0, 7));
        x.employ(0, 12, 0);
        check.due("nothing of another worker", 0, x.sum(1, 9));
        check.refused("no such worker", Check.INDEX, () -> x.settle(2));
        check.refused("no such worker", Check.INDEX, () -> x.settle(-1));
    }

    private static void promise17TooMuchPaid() {
        PayLedger x = Offices.untaxed();
        x.pay(0, 1000, false);
        x.correct(0, 0, 400);
        check.due("too much was paid", -600, x.sum(0, 10));
        check.due("settled", -600, x.settle(0));
        check.due("settled in all", -600, x.sum(0, 9));
        x.correct(0, 0, 1000);
        check.due("owed to the worker now", 600, x.settle(0));
        check.due("settled in all", 0, x.sum(0, 9));
    }
}
