/** The boundary cases that 'Terms', 2 names for BASIC, MORE and the two METHODS. */
public final class EdgesOfTerms2TaxTest {
    private static final int[] PERIODS = {1, 2, 4, 12, 13, 24, 26, 52};
    private static final Check check = new Check();

    public static void main(String[] args) {
        check.run(EdgesOfTerms2TaxTest::basicOfABonus);
        check.run(EdgesOfTerms2TaxTest::yearlyIsNotBelow0);
        check.run(EdgesOfTerms2TaxTest::dutyIsNotBelow0);
        check.run(EdgesOfTerms2TaxTest::highestPays);
        check.run(EdgesOfTerms2TaxTest::basicIsAtMostLeft);
        check.run(EdgesOfTerms2TaxTest::basicLessBasicsAheadIsNotBelow0);
        check.run(EdgesOfTerms2TaxTest::oneUsualPay);
        check.run(EdgesOfTerms2TaxTest::bonusesAmongUsualPays);
        check.run(EdgesOfTerms2TaxTest::incomesAndBasicsAlone);
        check.run(EdgesOfTerms2TaxTest::yearlyIsRoundedDown);
        check.run(EdgesOfTerms2TaxTest::usualPaysUpToThisOne);
        check.run(EdgesOfTerms2TaxTest::moreIsAtMostLeft);
        check.run(EdgesOfTerms2TaxTest::noMoreOfABonus);
        check.end("EdgesOfTerms2TaxTest");
    }

    private static void basicOfABonus() {
        check.sentence("BASIC: of a BONUS ROUND(INCOME BONUS RATE / 1000000)");
        PayLedger x = Offices.allTaken(52, 1);
        // The rate, the bonus, what is due; the worker's table, RELIEF and CREDIT do not count.
        long[][] due = {{0, 1000000, 0}, {1, 499999, 0}, {1, 500000, 1}, {499999, 1, 0}, {500000, 1, 1},
            {500000, 3, 2}, {999999, 1000000, 999999}, {1000000, 0, 0}, {1000000, 1, 1},
            {1000000, Offices.BILLION, Offices.BILLION}};
        for (long relief : new long[] {0, Offices.TRILLION}) {
            x.change(0, 1, relief);
            x.change(0, 2, relief);
            for (long[] row : due) {
                x.bonus((int) row[0]);
                check.due(row[1] + " by rate " + row[0], row[1] - row[2], x.ask(0, row[1], true));
            }
        }
        x.deduction(true, 1, 500000, PayLedger.NONE, 0);
        x.enrol(0, 0, true);
        x.bonus(500000);
        x.pay(0, 1000, true);
        check.due("of the income, not of the gross", 250, x.line(0, 0, 3));
    }

    private static void yearlyIsNotBelow0() {
        check.sentence("YEARLY is INCOME times PERIODS less RELIEF (0 at least)");
        for (int method = 0; method <= 1; method++) {
            PayLedger x = Offices.allTaken(1, method);
            long[][] due = {{0, 100}, {1, 99}, {99, 1}, {100, 0}, {101, 0}, {200, 0}, {Offices.TRILLION, 0}};
            for (long[] row : due) {
                x.change(0, 1, row[0]);
                check.due("method " + method + ", relief " + row[0], 100 - row[1], x.ask(0, 100, false));
            }
            PayLedger y = Offices.allTaken(12, method);
            long[][] twelve = {{1194, 1}, {1195, 0}, {1199, 0}, {1200, 0}, {1201, 0}, {1212, 0}};
            for (long[] row : twelve) {
                y.change(0, 1, row[0]);
                check.due("method " + method + ", relief " + row[0], 100 - row[1], y.ask(0, 100, false));
            }
            y.change(0, 1, 0);
            check.due("no income", 0, y.ask(0, 0, false));
        }
    }

    private static void dutyIsNotBelow0() {
        check.sentence("DUTY the TAX of YEARLY less CREDIT (0 at least)");
        for (int method = 0; method <= 1; method++) {
            PayLedger x = Offices.allTaken(1, method);
            long[][] due = {{0, 100}, {1, 99}, {99, 1}, {100, 0}, {101, 0}, {200, 0}, {Offices.TRILLION, 0}};
            for (long[] row : due) {
                x.change(0, 2, row[0]);
                check.due("method " + method + ", credit " + row[0], 100 - row[1], x.ask(0, 100, false));
            }
            PayLedger y = Offices.withWorker(1, method);
            y.change(0, 1, 500);
            // A tenth of the 500 above the RELIEF: the CREDIT is less of the TAX, not of YEARLY.
            long[][] both = {{49, 1}, {50, 0}, {51, 0}, {500, 0}};
            for (long[] row : both) {
                y.change(0, 2, row[0]);
                check.due("method " + method + ", credit " + row[0], 1000 - row[1], y.ask(0, 1000, false));
            }
        }
    }

    private static void highestPays() {
        check.sentence("Of a usual one by METHOD 0, by METHOD 1: of the highest GROSS");
        for (int periods : PERIODS) {
            for (int method = 0; method <= 1; method++) {
                PayLedger x = Offices.allTaken(periods, method);
                x.pay(0, Offices.BILLION, false);
                check.due(periods + " periods, method " + method, 0, x.line(0, 0, 6));
                x.pay(0, Offices.BILLION, false);
                check.due(periods + " periods, method " + method, Offices.BILLION, x.line(0, 1, 3));
            }
        }
    }

    private static void basicIsAtMostLeft() {
        check.sentence("BASIC is the lesser of LEFT and");
        // Nothing is withheld of the first 100; YEARLY is 200 then, so 200 less the CREDIT are due of the second 100.
        long[][] due = {{200, 0}, {199, 1}, {101, 99}, {100, 100}, {99, 100}, {0, 100}};
        for (long[] row : due) {
            PayLedger x = new PayLedger();
            x.table();
            x.table();
            x.stage(1, 0, 1000000);
            x.employ(0, 2, 1);
            x.change(0, 3, 7);
            x.pay(0, 100, false);
            x.change(0, 4, 1);
            x.change(0, 2, row[0]);
            x.pay(0, 100, false);
            check.due("basic, credit " + row[0], row[1], x.line(0, 1, 3));
            check.due("more of what it leaves", Math.min(7, 100 - row[1]), x.line(0, 1, 4));
            check.due("net", Math.max(0, 93 - row[1]), x.line(0, 1, 6));
        }
    }

    private static void basicLessBasicsAheadIsNotBelow0() {
        check.sentence("ROUND(DUTY n / PERIODS) less the BASICS of the usual PAYS ahead (0 at least)");
        // All of the first 100 is withheld; 150 less the CREDIT are due of both.
        long[][] due = {{0, 50}, {1, 49}, {49, 1}, {50, 0}, {51, 0}, {150, 0}, {151, 0}, {Offices.TRILLION, 0}};
        for (long[] row : due) {
            PayLedger x = Offices.allTaken(2, 1);
            x.pay(0, 100, false);
            x.change(0, 2, row[0]);
            x.pay(0, 50, false);
            check.due("basic ahead", 100, x.line(0, 0, 3));
            check.due("basic, credit " + row[0], row[1], x.line(0, 1, 3));
        }
    }

    private static void oneUsualPay() {
        check.sentence("let n be how many usual PAYS there are up to this one: 1");
        // What is due of 100000 by the table of 10%, 20% and 40%, for each number of PERIODS.
        long[] due = {10000, 10000, 10000, 11667, 12308, 15833, 16154, 22692};
        for (int i = 0; i < PERIODS.length; i++) {
            for (int method = 0; method <= 1; method++) {
                PayLedger x = Offices.withWorker(PERIODS[i], method);
                String what = PERIODS[i] + " periods, method " + method;
                check.due(what, 100000 - due[i], x.ask(0, 100000, false));
                x.bonus(1000000);
                x.pay(0, 777777, true);
                check.due(what + " behind a bonus", 100000 - due[i], x.ask(0, 100000, false));
                x.pay(0, 100000, false);
                check.due(what + " behind a bonus", due[i], x.line(0, 1, 3));
            }
        }
    }

    private static void bonusesAmongUsualPays() {
        check.sentence("let n be how many usual PAYS there are up to this one, S their INCOMES' sum");
        PayLedger x = Offices.withWorker(4, 1);
        x.bonus(500000);
        long[][] pays = {
            // The gross, 1 of a bonus, its basic.
            {80000, 1, 40000},
            {300000, 0, 35000},
            {70001, 1, 35001},
            // 1200000 times 4 by 2: 380000, times 2 by 4, less 35000.
            {900000, 0, 155000},
            {1, 1, 1},
            // 1200000 times 4 by 3: 220000, times 3 by 4 is below the 190000 ahead.
            {0, 0, 0},
            // 2400000 times 4 by 4: 380000, times 4 by 4, less 190000.
            {1200000, 0, 190000}};
        for (int i = 0; i < pays.length; i++) {
            x.pay(0, pays[i][0], pays[i][1] == 1);
            check.due("basic of pay " + i, pays[i][2], x.line(0, i, 3));
        }
    }

    private static void incomesAndBasicsAlone() {
        check.sentence("S their INCOMES' sum; less the BASICS of the usual PAYS ahead (not GROSS, nor MORE)");
        PayLedger x = Offices.withWorker(2, 1);
        x.deduction(true, 1, 500000, PayLedger.NONE, 0);
        x.enrol(0, 0, true);
        x.change(0, 3, 50);
        // The half of each is INCOME, of which a tenth is due.
        long[][] due = {{2000, 1000, 100}, {4000, 2000, 200}, {0, 0, 0}, {2000, 1000, 100}, {6000, 3000, 300}};
        for (int pay = 0; pay < due.length; pay++) {
            x.pay(0, due[pay][0], false);
            check.due("income of pay " + pay, due[pay][1], x.line(0, pay, 2));
            check.due("basic of pay " + pay, due[pay][2], x.line(0, pay, 3));
        }
        check.due("more ahead", 100, x.line(0, 0, 4) + x.line(0, 1, 4));
    }

    private static void yearlyIsRoundedDown() {
        check.sentence("YEARLY is S PERIODS / n rounded down");
        long[][] due = {
            // How many pays of 0 are ahead, the gross, its basic: n times the whole part of gross by n.
            {0, 3, 3}, {1, 1, 0}, {1, 2, 2}, {1, 3, 2}, {1, 4, 4}, {1, 5, 4},
            {2, 2, 0}, {2, 3, 3}, {2, 4, 3}, {2, 5, 3}, {2, 6, 6}, {59, 59, 0}, {59, 60, 60}, {59, 119, 60}};
        for (long[] row : due) {
            PayLedger x = Offices.allTaken(1, 1);
            for (int i = 0; i < row[0]; i++) {
                x.pay(0, 0, false);
            }
            check.due(row[1] + " behind " + row[0] + " pays", row[1] - row[2], x.ask(0, row[1], false));
        }
        PayLedger y = Offices.allTaken(13, 1);
        y.pay(0, 0, false);
        // 13 by 2 is 6; 6 times 2 by 13 is 1 by ROUND. 26 by 2 is 13, and all of 2 is due.
        check.due("1 of 13 periods", 0, y.ask(0, 1, false));
        check.due("2 of 13 periods", 0, y.ask(0, 2, false));
        y.change(0, 2, 3);
        // 6 less 3, times 2 by 13: 6 / 13 is below a half; 7 less 3, were it rounded up, would be above one.
        check.due("1 of 13 periods with a credit", 1, y.ask(0, 1, false));
    }

    private static void usualPaysUpToThisOne() {
        check.sentence("how many usual PAYS there are up to this one (those by METHOD 0 too)");
        PayLedger x = Offices.withWorker(12, 0);
        x.pay(0, 100000, false);
        check.due("by method 0", 11667, x.line(0, 0, 3));
        x.change(0, 0, 1);
        x.pay(0, 300000, false);
        // 400000 times 12 by 2 is 2400000: 380000, times 2 by 12 is 63333, less 11667.
        check.due("by method 1", 63333 - 11667, x.line(0, 1, 3));
        x.change(0, 0, 0);
        x.pay(0, 100000, false);
        check.due("by method 0 again: none ahead counts", 11667, x.line(0, 2, 3));
        x.close();
        x.change(0, 0, 1);
        check.due("none of the year before counts", 88333, x.ask(0, 100000, false));
    }

    private static void moreIsAtMostLeft() {
        check.sentence("MORE is the lesser of LEFT and EXTRA");
        long[][] due = {{0, 0}, {1, 1}, {899, 899}, {900, 900}, {901, 900}, {Offices.BILLION, 900}};
        for (long[] row : due) {
            PayLedger x = Offices.withWorker(1, 0);
            x.change(0, 3, row[0]);
            x.pay(0, 1000, false);
            check.due("basic", 100, x.line(0, 0, 3));
            check.due("more, extra " + row[0], row[1], x.line(0, 0, 4));
            check.due("net", 900 - row[1], x.line(0, 0, 6));
        }
        PayLedger y = Offices.allTaken(1, 0);
        y.change(0, 3, 1);
        y.pay(0, 1000, false);
        check.due("nothing is left", 0, y.line(0, 0, 4));
    }

    private static void noMoreOfABonus() {
        check.sentence("MORE is the lesser of LEFT and EXTRA (0 of a BONUS)");
        for (long extra : new long[] {0, 1, 1000, Offices.BILLION}) {
            PayLedger x = Offices.withWorker(1, 0);
            x.change(0, 3, extra);
            x.pay(0, 1000, true);
            check.due("more, extra " + extra, 0, x.line(0, 0, 4));
            check.due("net", 1000, x.line(0, 0, 6));
        }
    }
}
