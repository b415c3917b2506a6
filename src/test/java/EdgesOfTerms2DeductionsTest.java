/** The boundary cases that 'Terms', 2 names for DEDUCTIONS; each for the EARLY ones and for the LATE ones. */
public final class EdgesOfTerms2DeductionsTest {
    private static final long MOST = Offices.BILLION;
    private static final Check check = new Check();

    public static void main(String[] args) {
        for (boolean early : new boolean[] {true, false}) {
            check.run(() -> sumOfSort0(early));
            check.run(() -> rateOfSort1(early));
            check.run(() -> rateOfSort2(early));
            check.run(() -> baseOverPays(early));
            check.run(() -> baseOfPaysWithoutIt(early));
            check.run(() -> cap(early));
            check.run(() -> capOverPays(early));
            check.run(() -> capOfWhatWasTaken(early));
            check.run(() -> noCap(early));
            check.run(() -> left(early));
            check.run(() -> byTheirNumbers(early));
            check.run(() -> ofGrossNotOfLeft(early));
        }
        check.run(EdgesOfTerms2DeductionsTest::incomeIsLeft);
        check.run(EdgesOfTerms2DeductionsTest::lateIsBehindTheTax);
        check.run(EdgesOfTerms2DeductionsTest::netIsLeftAtLast);
        check.end("EdgesOfTerms2DeductionsTest");
    }

    /** No tax: what is not deducted is paid. */
    private static PayLedger with(boolean early, int sort, long size, long cap, long base) {
        PayLedger x = Offices.untaxed();
        x.deduction(early, sort, size, cap, base);
        x.enrol(0, 0, true);
        return x;
    }

    /** Pays one after the other: the gross, 1 of a bonus, what is due of deduction 0. */
    private static void pays(PayLedger x, long[]... rows) {
        long all = 0;
        for (long[] row : rows) {
            String what = "a pay of " + row[0] + (row[1] == 1 ? ", a bonus," : "");
            check.due(what + " asked for", row[0] - row[2], x.ask(0, row[0], row[1] == 1));
            int pay = x.pay(0, row[0], row[1] == 1);
            check.due(what + " behind " + pay + " others", row[2], x.part(0, pay, 0));
            check.due(what + " paid", row[0] - row[2], x.line(0, pay, 6));
            all += row[2];
        }
        check.due("of all pays", all, x.deducted(0, 0));
    }

    private static long[] usual(long gross, long due) {
        return new long[] {gross, 0, due};
    }

    private static long[] bonus(long gross, long due) {
        return new long[] {gross, 1, due};
    }

    private static void sumOfSort0(boolean early) {
        check.sentence("of SORT 0 the sum (0 of a BONUS)");
        pays(with(early, 0, 30, PayLedger.NONE, 0), usual(29, 29), usual(30, 30), usual(31, 30), usual(0, 0),
                bonus(0, 0), bonus(29, 0), bonus(30, 0), bonus(31, 0), bonus(MOST, 0), usual(100, 30));
        pays(with(early, 0, 0, PayLedger.NONE, 0), usual(0, 0), usual(1, 0), usual(MOST, 0));
        pays(with(early, 0, 1, PayLedger.NONE, 0), usual(0, 0), usual(1, 1), usual(2, 1), bonus(1, 0));
        pays(with(early, 0, MOST, PayLedger.NONE, 0), usual(MOST - 1, MOST - 1), usual(MOST, MOST), bonus(MOST, 0));
    }

    private static void rateOfSort1(boolean early) {
        check.sentence("of 1 ROUND(GROSS RATE / 1000000)");
        pays(with(early, 1, 1000000, PayLedger.NONE, 0), usual(0, 0), usual(1, 1), usual(MOST, MOST), bonus(0, 0),
                bonus(1, 1), bonus(MOST, MOST));
        pays(with(early, 1, 0, PayLedger.NONE, 0), usual(0, 0), usual(MOST, 0), bonus(MOST, 0));
        pays(with(early, 1, 100000, PayLedger.NONE, 0), usual(4, 0), usual(5, 1), usual(6, 1), usual(14, 1),
                bonus(15, 2), bonus(4, 0), bonus(5, 1));
    }

    private static void rateOfSort2(boolean early) {
        check.sentence("of 2 likewise of what the GROSS of this PAY has within the BASE");
        for (long gross : new long[] {0, 1, 999, 1000, 1001, MOST}) {
            pays(with(early, 2, 1000000, PayLedger.NONE, 1000), usual(gross, Math.min(1000, gross)));
            pays(with(early, 2, 1000000, PayLedger.NONE, 1000), bonus(gross, Math.min(1000, gross)));
        }
        pays(with(early, 2, 1000000, PayLedger.NONE, 0), usual(0, 0), usual(1, 0), usual(MOST, 0));
        pays(with(early, 2, 1000000, PayLedger.NONE, 1), usual(0, 0), usual(2, 1), usual(1, 0));
        pays(with(early, 2, 500000, PayLedger.NONE, 3), usual(3, 2));
        pays(with(early, 2, 500000, PayLedger.NONE, 3), usual(2, 1), usual(2, 1), usual(2, 0));
        pays(with(early, 2, 500000, PayLedger.NONE, 3), usual(1, 1), usual(1, 1), usual(1, 1), usual(1, 0));
        pays(with(early, 2, 499999, PayLedger.NONE, 3), usual(2, 1), usual(2, 0));
        pays(with(early, 2, 1000000, PayLedger.NONE, Offices.TRILLION), usual(MOST, MOST), usual(MOST, MOST));
        pays(with(early, 2, 0, PayLedger.NONE, 1000), usual(1000, 0));
    }

    private static void baseOverPays(boolean early) {
        check.sentence("the lesser of BASE and all GROSS of the PAYS up to this one, less the lesser of BASE and all"
                + " GROSS of those ahead of it");
        pays(with(early, 2, 1000000, PayLedger.NONE, 1000), usual(400, 400), usual(599, 599), usual(1, 1), usual(1, 0));
        pays(with(early, 2, 1000000, PayLedger.NONE, 1000), usual(400, 400), usual(600, 600), usual(1, 0));
        pays(with(early, 2, 1000000, PayLedger.NONE, 1000), usual(400, 400), usual(601, 600), usual(1, 0));
        pays(with(early, 2, 1000000, PayLedger.NONE, 1000), usual(999, 999), usual(2, 1), usual(2, 0));
        pays(with(early, 2, 1000000, PayLedger.NONE, 1000), usual(1000, 1000), usual(1, 0), usual(MOST, 0));
        pays(with(early, 2, 1000000, PayLedger.NONE, 1000), usual(1001, 1000), usual(1, 0));
        pays(with(early, 2, 1000000, PayLedger.NONE, 1000), bonus(999, 999), usual(2, 1), bonus(1, 0));
        pays(with(early, 2, 1000000, PayLedger.NONE, 1000), usual(999, 999), bonus(2, 1), usual(1, 0));
    }

    private static void baseOfPaysWithoutIt(boolean early) {
        check.sentence("all GROSS of those ahead of it (of this YEAR, those without the DEDUCTION too)");
        PayLedger x = with(early, 2, 1000000, PayLedger.NONE, 1000);
        x.enrol(0, 0, false);
        pays(x, usual(700, 0));
        x.enrol(0, 0, true);
        check.due("299 within the base", 0, x.ask(0, 299, false));
        check.due("300 within the base", 0, x.ask(0, 300, false));
        check.due("one of 301 is not", 1, x.ask(0, 301, false));
        x.close();
        pays(x, usual(999, 999), usual(2, 1));
    }

    private static void cap(boolean early) {
        check.sentence("It is at most CAP");
        for (long gross : new long[] {0, 1, 99, 100, 101, MOST}) {
            pays(with(early, 1, 1000000, 100, 0), usual(gross, Math.min(100, gross)));
            pays(with(early, 2, 1000000, 100, MOST), bonus(gross, Math.min(100, gross)));
        }
        for (long sum : new long[] {99, 100, 101}) {
            pays(with(early, 0, sum, 100, 0), usual(1000, Math.min(100, sum)));
        }
        pays(with(early, 1, 1000000, 0, 0), usual(0, 0), usual(1, 0), usual(MOST, 0));
        pays(with(early, 1, 1000000, 1, 0), usual(0, 0), usual(2, 1), usual(2, 0));
        pays(with(early, 1, 1000000, Offices.TRILLION, 0), usual(MOST, MOST), usual(MOST, MOST));
    }

    private static void capOverPays(boolean early) {
        check.sentence("at most CAP less what the PAYS ahead have of it");
        pays(with(early, 1, 1000000, 100, 0), usual(60, 60), usual(39, 39), usual(2, 1), usual(2, 0));
        pays(with(early, 1, 1000000, 100, 0), usual(60, 60), usual(40, 40), usual(1, 0));
        pays(with(early, 1, 1000000, 100, 0), usual(60, 60), bonus(41, 40), usual(1, 0));
        pays(with(early, 1, 1000000, 100, 0), usual(100, 100), usual(1, 0), bonus(1, 0));
        pays(with(early, 0, 60, 100, 0), usual(200, 60), bonus(200, 0), usual(200, 40), usual(200, 0));
        pays(with(early, 2, 1000000, 100, 1000), usual(60, 60), usual(60, 40), usual(60, 0));
        PayLedger x = with(early, 1, 1000000, 100, 0);
        pays(x, usual(60, 60), usual(60, 40), usual(60, 0));
        x.correct(0, 0, 39);
        check.due("second, when there is more of the cap", 60, x.part(0, 1, 0));
        check.due("third, when there is one of the cap", 1, x.part(0, 2, 0));
        x.correct(0, 0, 101);
        check.due("second, when there is none", 0, x.part(0, 1, 0));
        x.settle(0);
        x.close();
        pays(x, usual(99, 99), usual(2, 1));
    }

    private static void capOfWhatWasTaken(boolean early) {
        check.sentence("less what the PAYS ahead have of it (not what they should have had)");
        pays(with(early, 0, 60, 100, 0), usual(10, 10), usual(200, 60), usual(200, 30), usual(200, 0));
        PayLedger x = with(early, 0, 60, 100, 0);
        x.enrol(0, 0, false);
        x.pay(0, 200, false);
        x.enrol(0, 0, true);
        check.due("one ahead had it not", 140, x.ask(0, 200, false));
    }

    private static void noCap(boolean early) {
        check.sentence("a CAP or none");
        PayLedger x = with(early, 1, 1000000, PayLedger.NONE, 0);
        for (int i = 0; i < 60; i++) {
            x.pay(0, MOST, i % 2 == 1);
        }
        check.due("all of sixty pays", 60 * MOST, x.deducted(0, 0));
    }

    private static void left(boolean early) {
        check.sentence("and at most LEFT; LEFT is less by it");
        for (long second : new long[] {399, 400, 401}) {
            PayLedger x = with(early, 0, 600, PayLedger.NONE, 0);
            x.deduction(early, 0, second, PayLedger.NONE, 0);
            x.deduction(early, 1, 1000000, PayLedger.NONE, 0);
            x.enrol(0, 1, true);
            x.enrol(0, 2, true);
            x.pay(0, 1000, false);
            check.due("the first takes all of it", 600, x.part(0, 0, 0));
            check.due("second of " + second, Math.min(400, second), x.part(0, 0, 1));
            check.due("the third takes the rest", 400 - Math.min(400, second), x.part(0, 0, 2));
            check.due("net", 0, x.line(0, 0, 6));
        }
    }

    private static void byTheirNumbers(boolean early) {
        check.sentence("Then the EARLY DEDUCTIONS, by their numbers");
        PayLedger x = Offices.untaxed();
        for (int deduction = 0; deduction < 8; deduction++) {
            x.deduction(early, 0, 30, PayLedger.NONE, 0);
        }
        for (int deduction = 7; deduction >= 0; deduction--) {
            x.enrol(0, deduction, true);
        }
        x.pay(0, 100, false);
        long[] due = {30, 30, 30, 10, 0, 0, 0, 0};
        for (int deduction = 0; deduction < 8; deduction++) {
            check.due("part " + deduction, due[deduction], x.part(0, 0, deduction));
        }
        check.due("all EARLY", early ? 100 : 0, x.line(0, 0, 1));
        check.due("all LATE", early ? 0 : 100, x.line(0, 0, 5));
    }

    private static void ofGrossNotOfLeft(boolean early) {
        check.sentence("of 1 ROUND(GROSS RATE / 1000000); of 2 likewise of what the GROSS has (not of LEFT)");
        for (int sort = 1; sort <= 2; sort++) {
            PayLedger x = with(early, 0, 600, PayLedger.NONE, 0);
            x.deduction(early, sort, 300000, PayLedger.NONE, 1500);
            x.enrol(0, 1, true);
            long[][] due = {{1000, 300}, {1000, sort == 1 ? 300 : 150}, {700, sort == 1 ? 100 : 0}};
            for (int pay = 0; pay < due.length; pay++) {
                x.pay(0, due[pay][0], false);
                check.due("sort " + sort + ", part of pay " + pay, due[pay][1], x.part(0, pay, 1));
            }
        }
    }

    private static void incomeIsLeft() {
        check.sentence("INCOME is LEFT then");
        for (long sum : new long[] {0, 1, 699, 700, 701}) {
            PayLedger x = Offices.allTaken(1, 0);
            x.deduction(true, 0, sum, PayLedger.NONE, 0);
            x.enrol(0, 0, true);
            x.pay(0, 700, false);
            long income = Math.max(0, 700 - sum);
            check.due("all EARLY, a sum of " + sum, 700 - income, x.line(0, 0, 1));
            check.due("income", income, x.line(0, 0, 2));
            check.due("basic", income, x.line(0, 0, 3));
            check.due("net", 0, x.line(0, 0, 6));
        }
    }

    private static void lateIsBehindTheTax() {
        check.sentence("Then the LATE DEDUCTIONS like the EARLY ones");
        for (long sum : new long[] {849, 850, 851}) {
            // Of 1000 a tenth is BASIC and 50 are MORE: 850 are LEFT.
            PayLedger x = Offices.withWorker(1, 0);
            x.change(0, 3, 50);
            x.deduction(false, 0, sum, PayLedger.NONE, 0);
            x.enrol(0, 0, true);
            x.pay(0, 1000, false);
            check.due("income", 1000, x.line(0, 0, 2));
            check.due("basic", 100, x.line(0, 0, 3));
            check.due("more", 50, x.line(0, 0, 4));
            check.due("a late sum of " + sum, Math.min(850, sum), x.line(0, 0, 5));
            check.due("net", 850 - Math.min(850, sum), x.line(0, 0, 6));
        }
        for (int sort = 1; sort <= 2; sort++) {
            // Of 1000 INCOME is 700, BASIC 70 and MORE 50; the rate counts for GROSS all the same.
            PayLedger y = Offices.withWorker(1, 0);
            y.change(0, 3, 50);
            y.deduction(true, 0, 300, PayLedger.NONE, 0);
            y.deduction(false, sort, 500000, PayLedger.NONE, 1600);
            y.enrol(0, 0, true);
            y.enrol(0, 1, true);
            y.pay(0, 1000, false);
            check.due("half of the gross, sort " + sort, 500, y.line(0, 0, 5));
            check.due("net", 80, y.line(0, 0, 6));
            y.pay(0, 1000, false);
            check.due("of the second, sort " + sort, sort == 1 ? 500 : 300, y.line(0, 1, 5));
            check.due("of a bonus, sort " + sort, sort == 1 ? 500 : 1000, y.ask(0, 1000, true));
        }
    }

    private static void netIsLeftAtLast() {
        check.sentence("NET is LEFT at last");
        PayLedger x = Offices.untaxed();
        x.deduction(true, 0, 300, PayLedger.NONE, 0);
        x.deduction(false, 0, 600, PayLedger.NONE, 0);
        x.enrol(0, 0, true);
        x.enrol(0, 1, true);
        long[][] due = {{0, 0}, {300, 0}, {899, 0}, {900, 0}, {901, 1}, {MOST, MOST - 900}};
        for (long[] row : due) {
            check.due("net of " + row[0], row[1], x.ask(0, row[0], false));
        }
        check.due("net of a bonus", 5, x.ask(0, 5, true));
    }
}
