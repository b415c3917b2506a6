/** The boundary cases of promises 5, 8, 14 and 16: deduction, enrol, part, deducted. */
public final class EdgesOfDeductionsTest {
    private static final long BILLION = Offices.BILLION;
    private static final long TOP = Offices.TRILLION;
    private static final Check check = new Check();

    public static void main(String[] args) {
        check.run(EdgesOfDeductionsTest::sizeOfSort0);
        check.run(EdgesOfDeductionsTest::sizeOfOthers);
        check.run(EdgesOfDeductionsTest::caps);
        check.run(EdgesOfDeductionsTest::noCap);
        check.run(EdgesOfDeductionsTest::bases);
        check.run(EdgesOfDeductionsTest::baseCountsForSort2Alone);
        check.run(EdgesOfDeductionsTest::sorts);
        check.run(EdgesOfDeductionsTest::thereAre8);
        check.run(EdgesOfDeductionsTest::anotherStateThanBefore);
        check.run(EdgesOfDeductionsTest::enrolledFromNowOn);
        check.run(EdgesOfDeductionsTest::partOfOneNotHad);
        check.run(EdgesOfDeductionsTest::deductedOfNone);
        check.end("EdgesOfDeductionsTest");
    }

    private static void taken(String what, Check.Numbered call, long... numbers) {
        for (Twins.Maker maker : new Twins.Maker[] {PayLedger::new, Offices::busy}) {
            check.takenEach(what, maker, call, numbers);
        }
    }

    private static void refused(String what, Check.Numbered call, long... numbers) {
        for (Twins.Maker maker : new Twins.Maker[] {PayLedger::new, Offices::busy}) {
            check.refusedEach(what, Check.ARGUMENT, maker, call, numbers);
        }
    }

    private static void sizeOfSort0() {
        check.sentence("5: size is the sum of SORT 0 (0 to 1000000000)");
        for (boolean early : new boolean[] {true, false}) {
            Check.Numbered call = (x, size) -> x.deduction(early, 0, size, PayLedger.NONE, 0);
            taken("size", call, 0, 1, 1000000, 1000001, BILLION - 1, BILLION);
            refused("size", call, Long.MIN_VALUE, -1, BILLION + 1, 1L << 32, Long.MAX_VALUE);
        }
    }

    private static void sizeOfOthers() {
        check.sentence("5: size is else the RATE");
        for (int sort = 1; sort <= 2; sort++) {
            int s = sort;
            Check.Numbered call = (x, size) -> x.deduction(true, s, size, PayLedger.NONE, 0);
            taken("size", call, 0, 1, 999999, 1000000);
            refused("size", call, Long.MIN_VALUE, -1, 1000001, BILLION, 1L << 32, Long.MAX_VALUE);
        }
    }

    private static void caps() {
        check.sentence("5: cap is 0 to 1000000000000; a cap of NONE is none");
        for (int sort = 0; sort <= 2; sort++) {
            int s = sort;
            Check.Numbered call = (x, cap) -> x.deduction(true, s, 5, cap, 0);
            taken("cap", call, PayLedger.NONE, 0, 1, TOP - 1, TOP);
            refused("cap", call, Long.MIN_VALUE, -3, -2, TOP + 1, -(1L << 32) - 1, Long.MAX_VALUE);
        }
    }

    private static void noCap() {
        check.sentence("5: a cap of NONE is none");
        long[][] due = {{PayLedger.NONE, 1000}, {0, 0}, {1, 1}, {999, 999}, {1000, 1000}, {TOP, 1000}};
        for (long[] row : due) {
            PayLedger x = Offices.untaxed();
            x.deduction(false, 0, 1000, row[0], 0);
            x.enrol(0, 0, true);
            check.due("taken, cap " + row[0], 2000 - row[1], x.ask(0, 2000, false));
        }
        check.due("NONE", -1, PayLedger.NONE);
        // The lower half of this cap is that of NONE.
        long cap = (1L << 32) - 1;
        PayLedger x = Offices.untaxed();
        x.deduction(false, 0, BILLION, cap, 0);
        x.enrol(0, 0, true);
        for (int i = 0; i < 5; i++) {
            x.pay(0, BILLION, false);
        }
        check.due("of a cap of " + cap, cap, x.deducted(0, 0));
    }

    private static void bases() {
        check.sentence("5: base is 0 to 1000000000000 (but must be right)");
        for (int sort = 0; sort <= 2; sort++) {
            int s = sort;
            Check.Numbered call = (x, base) -> x.deduction(false, s, 5, PayLedger.NONE, base);
            taken("base of sort " + s, call, 0, 1, TOP - 1, TOP);
            refused("base of sort " + s, call, Long.MIN_VALUE, -2, -1, TOP + 1, Long.MAX_VALUE);
        }
    }

    private static void baseCountsForSort2Alone() {
        check.sentence("5: base counts for SORT 2 alone");
        for (long base : new long[] {0, 1, 99, 100, 101, TOP}) {
            PayLedger x = Offices.untaxed();
            x.deduction(true, 0, 100, PayLedger.NONE, base);
            x.deduction(true, 1, 1000000, PayLedger.NONE, base);
            x.deduction(true, 2, 1000000, PayLedger.NONE, base);
            long[] due = {100, 100, Math.min(100, base)};
            for (int deduction = 0; deduction < 3; deduction++) {
                x.enrol(0, deduction, true);
                check.due("sort " + deduction + ", base " + base, 100 - due[deduction], x.ask(0, 100, false));
                x.enrol(0, deduction, false);
            }
        }
    }

    private static void sorts() {
        check.sentence("5: IllegalArgumentException: sort not 0 to 2");
        Check.Numbered call = (x, sort) -> x.deduction(true, (int) sort, 5, PayLedger.NONE, 0);
        taken("sort", call, 0, 1, 2);
        refused("sort", call, Integer.MIN_VALUE, -1, 3, 4, Integer.MAX_VALUE);
    }

    private static void thereAre8() {
        check.sentence("5: UnsupportedOperationException: there are 8");
        PayLedger x = new PayLedger();
        for (int deduction = 0; deduction < 8; deduction++) {
            check.due("deduction()", deduction, x.deduction(false, 0, 5, PayLedger.NONE, 0));
            check.due("how many there are", deduction + 1, x.count(1));
        }
        check.refused("a ninth one", Check.UNSUPPORTED, () -> x.deduction(false, 0, 5, PayLedger.NONE, 0));
        for (int sort = 0; sort <= 2; sort++) {
            int s = sort;
            check.refused("a ninth one of sort " + s, Check.UNSUPPORTED, Offices::full,
                    y -> y.deduction(true, s, 5, PayLedger.NONE, 0));
        }
    }

    private static void anotherStateThanBefore() {
        check.sentence("8: whether that is another state than before");
        PayLedger x = Offices.untaxed();
        x.employ(0, 12, 0);
        for (int deduction = 0; deduction < 8; deduction++) {
            x.deduction(true, 0, 1, PayLedger.NONE, 0);
        }
        for (int deduction = 0; deduction < 8; deduction++) {
            boolean[] turns = {false, true, true, false, false, true};
            boolean[] due = {false, true, false, true, false, true};
            for (int i = 0; i < turns.length; i++) {
                check.dueTrue("turn " + i + " of " + deduction, x.enrol(0, deduction, turns[i]) == due[i]);
            }
            check.due("how many the worker has", 100 - (deduction + 1), x.ask(0, 100, false));
            check.due("the other one has none", 100, x.ask(1, 100, false));
        }
    }

    private static void enrolledFromNowOn() {
        check.sentence("8: From now on a WORKER has a DEDUCTION, or not");
        PayLedger x = Offices.untaxed();
        x.deduction(false, 0, 7, PayLedger.NONE, 0);
        x.pay(0, 100, false);
        x.enrol(0, 0, true);
        x.pay(0, 100, false);
        x.enrol(0, 0, false);
        x.pay(0, 100, false);
        long[] due = {0, 7, 0};
        for (int round = 0; round < 2; round++) {
            for (int pay = 0; pay < due.length; pay++) {
                check.due("part of pay " + pay, due[pay], x.part(0, pay, 0));
            }
            x.correct(0, 0, 100);
        }
    }

    private static void partOfOneNotHad() {
        check.sentence("14: What a PAY has of a DEDUCTION (0 if the WORKER had it not)");
        PayLedger x = Offices.untaxed();
        x.deduction(true, 1, 1000000, PayLedger.NONE, 0);
        x.enrol(0, 0, true);
        for (int pay = 0; pay < 3; pay++) {
            x.pay(0, 100 + pay, pay == 1);
        }
        x.close();
        // The rows of the year before must not shine through.
        x.enrol(0, 0, false);
        for (int pay = 0; pay < 3; pay++) {
            x.pay(0, 100 + pay, false);
            check.due("of pay " + pay, 0, x.part(0, pay, 0));
        }
        x.deduction(false, 1, 1000000, PayLedger.NONE, 0);
        x.enrol(0, 1, true);
        check.due("of one that was not there", 0, x.part(0, 0, 1));
        x.correct(0, 0, 50);
        check.due("of one that was not there, put right", 0, x.part(0, 0, 1));
        x.pay(0, 100, false);
        x.enrol(0, 1, false);
        check.due("of one that the worker had, and has no more", 100, x.part(0, 3, 1));
    }

    private static void deductedOfNone() {
        check.sentence("16: What the PAYS of this YEAR of a WORKER have of a DEDUCTION");
        PayLedger x = Offices.untaxed();
        x.deduction(true, 0, 7, 60 * 7 - 1, 0);
        check.due("without pays", 0, x.deducted(0, 0));
        x.pay(0, 100, false);
        check.due("of one that had it not", 0, x.deducted(0, 0));
        x.close();
        x.enrol(0, 0, true);
        for (int pay = 1; pay < 60; pay++) {
            x.pay(0, 100, false);
            check.due("of " + pay, 7 * pay, x.deducted(0, 0));
        }
        x.pay(0, 100, false);
        check.due("of sixty, up to the cap", 60 * 7 - 1, x.deducted(0, 0));
        x.enrol(0, 0, false);
        check.due("it counts when the worker has it no more", 60 * 7 - 1, x.deducted(0, 0));
        x.close();
        check.due("in the next year", 0, x.deducted(0, 0));
    }
}
