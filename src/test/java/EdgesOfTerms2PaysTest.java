/** The boundary cases that 'Terms', 2 names for PAYS, for what stays with them, for PAID and for OWED. */
public final class EdgesOfTerms2PaysTest {
    private static final Check check = new Check();

    public static void main(String[] args) {
        check.run(EdgesOfTerms2PaysTest::sixtyPays);
        check.run(EdgesOfTerms2PaysTest::usualOrBonus);
        check.run(EdgesOfTerms2PaysTest::grossStays);
        check.run(EdgesOfTerms2PaysTest::tableStays);
        check.run(EdgesOfTerms2PaysTest::periodsStay);
        check.run(EdgesOfTerms2PaysTest::methodStays);
        check.run(EdgesOfTerms2PaysTest::reliefStays);
        check.run(EdgesOfTerms2PaysTest::creditStays);
        check.run(EdgesOfTerms2PaysTest::extraStays);
        check.run(EdgesOfTerms2PaysTest::bonusRateStays);
        check.run(EdgesOfTerms2PaysTest::deductionsStay);
        check.run(EdgesOfTerms2PaysTest::eachKeepsItsOwn);
        check.run(EdgesOfTerms2PaysTest::paidIsTheFirstNet);
        check.run(EdgesOfTerms2PaysTest::workedAnew);
        check.run(EdgesOfTerms2PaysTest::workedAnewOneAfterTheOther);
        check.run(EdgesOfTerms2PaysTest::othersAreNotWorkedAnew);
        check.run(EdgesOfTerms2PaysTest::owed);
        check.run(EdgesOfTerms2PaysTest::owedLessSettled);
        check.end("EdgesOfTerms2PaysTest");
    }

    private static void sixtyPays() {
        check.sentence("PAYS of a WORKER in this YEAR, numbered from 0 on as they came, at most 60");
        PayLedger x = Offices.untaxed();
        x.employ(0, 12, 0);
        for (int pay = 0; pay < 60; pay++) {
            check.due("pay()", pay, x.pay(0, 1000 + pay, pay % 2 == 1));
        }
        for (int pay = 0; pay < 60; pay++) {
            check.due("gross of pay " + pay, 1000 + pay, x.line(0, pay, 0));
        }
        check.due("the other worker's are numbered for themselves", 0, x.pay(1, 5, false));
        check.refused("a pay more", Check.UNSUPPORTED, () -> x.pay(0, 5, false));
        x.close();
        check.due("those of the next year too", 0, x.pay(0, 5, false));
        check.refused("a usual one more", Check.UNSUPPORTED, Offices::fullOfPays, y -> y.pay(0, 5, false));
        check.refused("a bonus more", Check.UNSUPPORTED, Offices::fullOfPays, y -> y.pay(0, 5, true));
        check.takenEach("a pay of the other worker", Offices::fullOfPays, (y, gross) -> y.pay(1, gross, false), 5);
    }

    private static void usualOrBonus() {
        check.sentence("each is a usual one or a BONUS");
        PayLedger x = Offices.allTaken(1, 0);
        x.pay(0, 100, true);
        x.pay(0, 100, false);
        check.due("a bonus", 1, x.line(0, 0, 8));
        check.due("a usual one", 0, x.line(0, 1, 8));
        x.correct(0, 0, 200);
        x.correct(0, 1, 200);
        check.due("a bonus put right", 1, x.line(0, 0, 8));
        check.due("is worked as one", 200, x.line(0, 0, 6));
        check.due("a usual one put right", 0, x.line(0, 1, 8));
        check.due("is worked as one", 0, x.line(0, 1, 6));
    }

    /** Puts pay 0 right: its net must tell what stayed with it, what a new pay would be the change. */
    private static void stayed(PayLedger x, long gross, boolean bonus, long netOfOld, long netOfNew) {
        check.due("a new one", netOfNew, x.ask(0, gross, bonus));
        x.correct(0, 0, gross);
        check.due("the old one put right", netOfOld, x.line(0, 0, 6));
        check.due("a new one", netOfNew, x.ask(0, gross, bonus));
    }

    private static void grossStays() {
        check.sentence("What it is worked with stays with it: its GROSS");
        PayLedger x = Offices.untaxed();
        x.pay(0, 100, false);
        x.pay(0, 200, false);
        x.correct(0, 0, 0);
        check.due("put right", 0, x.line(0, 0, 0));
        check.due("the one behind it", 200, x.line(0, 1, 0));
        x.correct(0, 1, Offices.BILLION);
        check.due("the one ahead", 0, x.line(0, 0, 0));
        check.due("put right", Offices.BILLION, x.line(0, 1, 0));
    }

    private static void tableStays() {
        check.sentence("What it is worked with stays with it: TABLE");
        PayLedger x = Offices.allTaken(1, 0);
        x.table();
        x.pay(0, 100, false);
        x.change(0, 4, 1);
        check.due("as it came", 0, x.line(0, 0, 6));
        stayed(x, 200, false, 0, 200);
    }

    private static void periodsStay() {
        check.sentence("What it is worked with stays with it: PERIODS");
        PayLedger x = Offices.withWorker(1, 0);
        x.pay(0, 600000, false);
        x.change(0, 5, 12);
        check.due("as it came", 540000, x.line(0, 0, 6));
        // 12 times 700000 is 8400000: 700000 and 1760000, by 12.
        stayed(x, 700000, false, 630000, 700000 - 205000);
    }

    private static void methodStays() {
        check.sentence("What it is worked with stays with it: METHOD");
        PayLedger x = Offices.withWorker(1, 0);
        x.pay(0, 2000000, false);
        x.pay(0, 500000, false);
        x.change(0, 0, 1);
        x.correct(0, 0, 2000000);
        check.due("the second by method 0", 50000, x.line(0, 1, 3));
        PayLedger y = Offices.withWorker(1, 1);
        y.pay(0, 500000, false);
        y.pay(0, 2000000, false);
        y.change(0, 0, 0);
        y.correct(0, 0, 500000);
        // 2500000 by 2 is 1250000: 150000, times 2, less 50000.
        check.due("the second by method 1", 250000, y.line(0, 1, 3));
    }

    private static void reliefStays() {
        check.sentence("What it is worked with stays with it: RELIEF");
        PayLedger x = Offices.allTaken(1, 0);
        x.change(0, 1, 10);
        x.pay(0, 100, false);
        x.change(0, 1, 50);
        check.due("as it came", 10, x.line(0, 0, 6));
        stayed(x, 120, false, 10, 50);
    }

    private static void creditStays() {
        check.sentence("What it is worked with stays with it: CREDIT");
        PayLedger x = Offices.allTaken(1, 0);
        x.change(0, 2, 10);
        x.pay(0, 100, false);
        x.change(0, 2, 50);
        check.due("as it came", 10, x.line(0, 0, 6));
        stayed(x, 120, false, 10, 50);
    }

    private static void extraStays() {
        check.sentence("What it is worked with stays with it: EXTRA");
        PayLedger x = Offices.untaxed();
        x.change(0, 3, 10);
        x.pay(0, 100, false);
        x.change(0, 3, 50);
        check.due("as it came", 90, x.line(0, 0, 6));
        stayed(x, 120, false, 110, 70);
    }

    private static void bonusRateStays() {
        check.sentence("What it is worked with stays with it: the BONUS RATE");
        PayLedger x = Offices.untaxed();
        x.bonus(1000000);
        x.pay(0, 100, true);
        x.bonus(0);
        check.due("as it came", 0, x.line(0, 0, 6));
        stayed(x, 120, true, 0, 120);
    }

    private static void deductionsStay() {
        check.sentence("What it is worked with stays with it: the DEDUCTIONS that the WORKER had");
        for (boolean early : new boolean[] {true, false}) {
            PayLedger x = Offices.untaxed();
            x.deduction(early, 0, 1, PayLedger.NONE, 0);
            x.deduction(early, 0, 10, PayLedger.NONE, 0);
            x.enrol(0, 0, true);
            x.pay(0, 100, false);
            x.enrol(0, 0, false);
            x.enrol(0, 1, true);
            check.due("as it came", 99, x.line(0, 0, 6));
            stayed(x, 120, false, 119, 110);
            check.due("what it had", 1, x.part(0, 0, 0));
            check.due("what it had not", 0, x.part(0, 0, 1));
        }
    }

    private static void eachKeepsItsOwn() {
        check.sentence("it and all behind it are worked anew: each with what stays with it");
        PayLedger x = Offices.untaxed();
        for (int pay = 0; pay < 60; pay++) {
            x.change(0, 3, pay);
            x.pay(0, 1000, false);
        }
        check.due("only the first is another one", 1, x.correct(0, 0, 2000));
        for (int pay = 1; pay < 60; pay++) {
            check.due("more of pay " + pay, pay, x.line(0, pay, 4));
        }
        check.due("the last one put right", 1, x.correct(0, 59, 2000));
        check.due("its more", 59, x.line(0, 59, 4));
    }

    private static void paidIsTheFirstNet() {
        check.sentence("PAID of a PAY is its NET as it came first; what was PAID stays");
        PayLedger x = Offices.allTaken(2, 1);
        x.change(0, 2, 100);
        x.pay(0, 100, false);
        x.pay(0, 100, false);
        check.due("paid of the first", 50, x.line(0, 0, 7));
        check.due("paid of the second", 50, x.line(0, 1, 7));
        x.correct(0, 0, 40);
        check.due("net of the first", 40, x.line(0, 0, 6));
        check.due("net of the second", 60, x.line(0, 1, 6));
        x.settle(0);
        x.correct(0, 0, 0);
        check.due("paid of the first", 50, x.line(0, 0, 7));
        check.due("paid of the second", 50, x.line(0, 1, 7));
        check.due("paid of both", 100, x.sum(0, 7));
    }

    private static void workedAnew() {
        check.sentence("it and all behind it of that WORKER are worked anew");
        PayLedger x = Offices.withWorker(12, 0);
        x.pay(0, 100000, false);
        check.due("the only one", 1, x.correct(0, 0, 200000));
        check.due("worked", 2, x.count(5));
        x.pay(0, 100000, false);
        x.pay(0, 100000, true);
        x.pay(0, 100000, false);
        check.due("worked", 5, x.count(5));
        x.correct(0, 3, 90000);
        check.due("the last one alone", 6, x.count(5));
        x.correct(0, 2, 90000);
        check.due("the last but one and the last one", 8, x.count(5));
        x.correct(0, 0, 90000);
        check.due("all four", 12, x.count(5));
        PayLedger y = Offices.fullOfPays();
        y.correct(0, 0, 5);
        check.due("all sixty", 61 + 60, y.count(5));
        y.correct(0, 59, 5);
        check.due("the sixtieth", 61 + 60 + 1, y.count(5));
    }

    private static void workedAnewOneAfterTheOther() {
        check.sentence("are worked anew, one after the other");
        PayLedger x = Offices.allTaken(2, 1);
        x.deduction(true, 0, 60, 100, 0);
        x.enrol(0, 0, true);
        x.change(0, 2, 100);
        x.pay(0, 100, false);
        x.pay(0, 100, false);
        x.pay(0, 100, false);
        long[][] parts = {{60, 40, 0}, {30, 60, 10}};
        dueParts(x, parts[0]);
        x.correct(0, 0, 30);
        // The second sees what the first has now, the third what both have now.
        dueParts(x, parts[1]);
        x.correct(0, 0, 100);
        dueParts(x, parts[0]);
        check.due("all as it was paid", 0, x.sum(0, 10));
    }

    private static void dueParts(PayLedger x, long[] parts) {
        for (int pay = 0; pay < parts.length; pay++) {
            check.due("part of pay " + pay, parts[pay], x.part(0, pay, 0));
            check.due("income of pay " + pay, x.line(0, pay, 0) - parts[pay], x.line(0, pay, 2));
        }
    }

    private static void othersAreNotWorkedAnew() {
        check.sentence("it and all behind it of that WORKER (none ahead, none of another)");
        PayLedger x = Offices.withWorker(12, 1);
        x.employ(0, 12, 1);
        for (int i = 0; i < 3; i++) {
            x.pay(0, 100000, false);
            x.pay(1, 100000, false);
        }
        check.due("two of three", 2, x.correct(0, 1, 1500000));
        check.due("worked", 8, x.count(5));
        // 1600000 times 12 by 2: 2940000, times 2 by 12; 1700000 times 12 by 3: 1820000, times 3 by 12 is less.
        long[] basics = {11667, 490000 - 11667, 0};
        long[] nets = {88333, 88334, 88333};
        for (int pay = 0; pay < 3; pay++) {
            check.due("basic of pay " + pay, basics[pay], x.line(0, pay, 3));
            check.due("another worker's pay " + pay, nets[pay], x.line(1, pay, 6));
            check.due("paid of it", nets[pay], x.line(1, pay, 7));
        }
        check.due("nothing is owed to that one", 0, x.sum(1, 10));
    }

    private static void owed() {
        check.sentence("OWED: all NET of this YEAR's PAYS less all PAID (below 0: too much was paid)");
        PayLedger x = Offices.untaxed();
        check.due("without pays", 0, x.sum(0, 10));
        x.pay(0, 100, false);
        x.pay(0, 100, true);
        long[][] due = {{99, -1}, {100, 0}, {101, 1}, {0, -100}, {Offices.BILLION, Offices.BILLION - 100}};
        for (long[] row : due) {
            x.correct(0, 0, row[0]);
            check.due("owed, first one " + row[0], row[1], x.sum(0, 10));
            check.due("by the office", row[1], x.office(10));
        }
        x.correct(0, 0, 90);
        x.correct(0, 1, 110);
        check.due("one too low, the other too high", 0, x.sum(0, 10));
    }

    private static void owedLessSettled() {
        check.sentence("OWED: less what was SETTLED in this YEAR");
        PayLedger x = Offices.untaxed();
        x.pay(0, 100, false);
        long[][] due = {{101, 1}, {99, -2}, {99, 0}, {0, -99}, {100, 100}};
        for (long[] row : due) {
            x.correct(0, 0, row[0]);
            check.due("owed, " + row[0], row[1], x.sum(0, 10));
            check.due("settle()", row[1], x.settle(0));
            check.due("owed then", 0, x.sum(0, 10));
            check.due("settled", row[0] - 100, x.sum(0, 9));
        }
        x.correct(0, 0, 150);
        x.settle(0);
        x.close();
        check.due("settled in the next year", 0, x.sum(0, 9));
        x.pay(0, 10, false);
        check.due("owed in the next year", 0, x.sum(0, 10));
    }
}
