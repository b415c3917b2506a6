/** Promises 10, 11, 13 and 14: pay, ask, line, part; and how tax is withheld. */
public final class PaysTest {
    private static final Check check = new Check();

    public static void main(String[] args) {
        promise10Pay();
        promise10Wrong();
        promise11Ask();
        promise13Line();
        promise14Part();
        methodOfTheYear();
        methodOfTheSums();
        methodsMixed();
        whatCannotBeWithheld();
        check.end("PaysTest");
    }

    private static void promise10Pay() {
        PayLedger x = Offices.withWorker(52, 1);
        x.employ(0, 12, 0);
        for (int number = 0; number < 60; number++) {
            check.due("pay", number, x.pay(0, Offices.BILLION, number % 3 == 0));
        }
        check.due("pays of another worker", 0, x.pay(1, 0, false));
        check.due("pays", 61, x.count(4));
        check.due("worked", 61, x.count(5));
        check.refused("a pay more", Check.UNSUPPORTED, () -> x.pay(0, 0, false));
        check.refused("a bonus more", Check.UNSUPPORTED, () -> x.pay(0, Offices.BILLION, true));
        check.refused("a wrong pay more", Check.ARGUMENT, () -> x.pay(0, -1, false));
        check.refused("an asked pay more", Check.UNSUPPORTED, () -> x.ask(0, 0, false));
        check.refused("a wrong asked pay more", Check.ARGUMENT, () -> x.ask(0, -1, false));
        check.due("gross", 60 * Offices.BILLION, x.sum(0, 0));
        check.due("a correction of all", 0, x.correct(0, 0, Offices.BILLION));
        check.due("worked", 121, x.count(5));
        x.close();
        check.due("pays from 0 on again", 0, x.pay(0, 5, false));
    }

    private static void promise10Wrong() {
        PayLedger x = Offices.withWorker(12, 0);
        check.refused("gross -1", Check.ARGUMENT, () -> x.pay(0, -1, false));
        check.refused("gross too high", Check.ARGUMENT, () -> x.pay(0, Offices.BILLION + 1, true));
        check.refused("gross too high", Check.ARGUMENT, () -> x.pay(0, 1L << 32, true));
        check.refused("no such worker", Check.INDEX, () -> x.pay(1, -1, false));
        check.refused("no such worker", Check.INDEX, () -> x.pay(-1, 0, false));
        check.refused("no such worker", Check.INDEX, () -> x.pay(10, 0, false));
        check.due("no pays", 0, x.count(4));
        check.due("none worked", 0, x.count(5));
        check.due("a pay of 0", 0, x.pay(0, 0, false));
    }

    private static void promise11Ask() {
        PayLedger x = Offices.busy();
        long usual = x.ask(0, 345678, false);
        long bonus = x.ask(0, 345678, true);
        int first = x.pay(0, 345678, false);
        check.due("as it comes then", usual, x.line(0, first, 6));
        PayLedger y = Offices.busy();
        check.due("a bonus as it comes then", bonus, y.line(0, y.pay(0, 345678, true), 6));
        check.refused("gross -1", Check.ARGUMENT, () -> x.ask(0, -1, false));
        check.refused("gross too high", Check.ARGUMENT, () -> x.ask(0, Offices.BILLION + 1, true));
        check.refused("no such worker", Check.INDEX, () -> x.ask(2, -1, false));
        check.refused("no such worker", Check.INDEX, () -> x.ask(-1, 0, false));
    }

    private static void promise13Line() {
        PayLedger x = Offices.busy();
        long[][] due = {
            // 12 times 475000 less 600000 is 5100000: 1140000, by 12; 62000 millionths of 500000.
            {500000, 25000, 475000, 95000, 1000, 31000, 348000, 348000, 0},
            {100000, 5000, 95000, 23750, 0, 6200, 65050, 65050, 1}};
        for (int pay = 0; pay < due.length; pay++) {
            for (int what = 0; what <= 8; what++) {
                check.due("line(0, " + pay + ", " + what + ")", due[pay][what], x.line(0, pay, what));
            }
        }
        check.refused("what -1", Check.ARGUMENT, () -> x.line(0, 0, -1));
        check.refused("what 9", Check.ARGUMENT, () -> x.line(0, 0, 9));
        check.refused("no such pay", Check.NO_SUCH, () -> x.line(0, 2, 9));
        check.refused("no such pay", Check.NO_SUCH, () -> x.line(0, -1, 0));
        check.refused("no such pay", Check.NO_SUCH, () -> x.line(0, 60, 0));
        check.refused("no such worker", Check.INDEX, () -> x.line(2, -1, 9));
        check.refused("no such worker", Check.INDEX, () -> x.line(-1, 0, 0));
        x.close();
        check.refused("no pays in a new year", Check.NO_SUCH, () -> x.line(0, 0, 0));
    }

    private static void promise14Part() {
        PayLedger x = Offices.busy();
        check.due("early", 25000, x.part(0, 0, 0));
        check.due("late", 31000, x.part(0, 0, 1));
        check.due("late of a bonus", 6200, x.part(0, 1, 1));
        check.due("the worker had it not", 0, x.part(1, 0, 0));
        int later = x.deduction(true, 0, 5, PayLedger.NONE, 0);
        x.enrol(0, later, true);
        check.due("one that came later", 0, x.part(0, 0, later));
        x.correct(0, 0, 500000);
        check.due("one that came later, put right", 0, x.part(0, 0, later));
        x.enrol(0, 0, false);
        x.correct(0, 0, 600000);
        check.due("one that the worker has no more", 30000, x.part(0, 0, 0));
        check.refused("no such deduction, nor pay", Check.INDEX, () -> x.part(0, 2, 3));
        check.refused("no such deduction", Check.INDEX, () -> x.part(0, 0, -1));
        check.refused("no such deduction", Check.INDEX, () -> x.part(0, 0, 8));
        check.refused("no such worker", Check.INDEX, () -> x.part(2, 0, 0));
        check.refused("no such worker", Check.INDEX, () -> x.part(-1, 0, 0));
        check.refused("no such pay", Check.NO_SUCH, () -> x.part(0, 2, 0));
        check.refused("no such pay", Check.NO_SUCH, () -> x.part(0, -1, 0));
    }

    private static void methodOfTheYear() {
        PayLedger x = Offices.withWorker(12, 0);
        x.change(0, 1, 600000);
        x.change(0, 2, 10000);
        // 12 times 50000 is all relief; 12 times 60000 leaves 120000: 12000 less 2000 above the credit.
        check.due("within the relief", 50000, x.ask(0, 50000, false));
        check.due("within the credit", 58000, x.ask(0, 58000, false));
        check.due("2000 by 12, rounded", 60000 - 167, x.ask(0, 60000, false));
        PayLedger y = Offices.withWorker(2, 0);
        // 2 times 3 is 6: 0.6 is 1, the half of it is 1.
        check.due("a half is rounded up", 2, y.ask(0, 3, false));
    }

    private static void methodOfTheSums() {
        PayLedger x = Offices.withWorker(4, 1);
        x.bonus(500000);
        long[][] pays = {{300000, 0}, {70001, 1}, {900000, 0}, {0, 0}, {2, 0}, {1000003, 0}};
        // Of each usual pay the sum times 4 by n, rounded down; its tax times n by 4; less what is ahead.
        for (int i = 0; i < pays.length; i++) {
            x.pay(0, pays[i][0], pays[i][1] == 1);
            check.due("basic of pay " + i, basicOfSums(pays, i), x.line(0, i, 3));
        }
        check.due("first", 35000, x.line(0, 0, 3));
        check.due("a bonus, rounded up", 35001, x.line(0, 1, 3));
        check.due("second usual one", 155000, x.line(0, 2, 3));
        check.due("not below 0", 0, x.line(0, 3, 3));
    }

    private static long basicOfSums(long[][] pays, int at) {
        if (pays[at][1] == 1) {
            return (pays[at][0] + 1) / 2;
        }
        long n = 0;
        long sum = 0;
        long basics = 0;
        long basic = 0;
        for (int i = 0; i <= at; i++) {
            if (pays[i][1] == 0) {
                n++;
                sum += pays[i][0];
                long yearly = sum * 4 / n;
                long millionths = Math.min(yearly, 1000000) * 100000
                        + Math.max(0, Math.min(yearly, 4000000) - 1000000) * 200000
                        + Math.max(0, yearly - 4000000) * 400000;
                long duty = (millionths + 500000) / 1000000;
                long due = (2 * duty * n + 4) / 8;
                basic = Math.min(pays[i][0], Math.max(0, due - basics));
                basics += basic;
            }
        }
        return basic;
    }

    private static void methodsMixed() {
        PayLedger x = Offices.withWorker(12, 0);
        x.pay(0, 100000, false);
        check.due("method 0", 11667, x.line(0, 0, 3));
        x.change(0, 0, 1);
        x.pay(0, 300000, false);
        // 400000 times 12 by 2 is 2400000: 380000, times 2 by 12 is 63333, less 11667.
        check.due("method 1 counts pays of method 0", 51666, x.line(0, 1, 3));
        x.change(0, 5, 1);
        x.pay(0, 200000, false);
        // 600000 by 3 is 200000: 20000, times 3 by 1 is 60000, and 63333 are ahead.
        check.due("by the periods of its own", 0, x.line(0, 2, 3));
    }

    private static void whatCannotBeWithheld() {
        PayLedger x = Offices.withWorker(1, 0);
        x.change(0, 3, 1000);
        x.pay(0, 1000, false);
        check.due("basic first", 100, x.line(0, 0, 3));
        check.due("more is what is left", 900, x.line(0, 0, 4));
        check.due("nothing is left", 0, x.line(0, 0, 6));
        PayLedger y = Offices.withWorker(1, 1);
        y.change(0, 5, 52);
        y.pay(0, 0, false);
        y.change(0, 5, 1);
        y.pay(0, 4, false);
        y.pay(0, 10, false);
        // 14 by 3 is 4: 0, and behind it nothing may be below 0.
        check.due("rounded down by n", 0, y.line(0, 2, 3));
        PayLedger z = new PayLedger();
        z.table();
        z.stage(0, 0, 1000000);
        z.employ(0, 1, 1);
        z.deduction(true, 0, Offices.BILLION, PayLedger.NONE, 0);
        z.pay(0, 1000, false);
        z.change(0, 1, Offices.TRILLION);
        z.pay(0, 1000, false);
        z.change(0, 1, 0);
        z.pay(0, 1000, false);
        // The sums' tax is 3000, 1000 was withheld: 2000 are due, and 1000 are there.
        check.due("basic is at most what is left", 1000, z.line(0, 2, 3));
        z.pay(0, 3000, false);
        check.due("the rest comes later", 3000, z.line(0, 3, 3));
        z.enrol(0, 0, true);
        z.pay(0, 3000, false);
        check.due("no income, no tax", 0, z.line(0, 4, 3));
    }
}
