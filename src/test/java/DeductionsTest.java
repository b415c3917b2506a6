/** Promises 5 and 8: deduction, enrol; and how deductions are worked. */
public final class DeductionsTest {
    private static final Check check = new Check();

    public static void main(String[] args) {
        promise5Deduction();
        promise5Wrong();
        promise8Enrol();
        sums();
        rates();
        bases();
        caps();
        orderAndWhatIsLeft();
        check.end("DeductionsTest");
    }

    private static void promise5Deduction() {
        PayLedger x = new PayLedger();
        check.due("sum", 0, x.deduction(true, 0, Offices.BILLION, PayLedger.NONE, 0));
        check.due("rate", 1, x.deduction(false, 1, 1000000, Offices.TRILLION, Offices.TRILLION));
        check.due("rate within a base", 2, x.deduction(true, 2, 0, 0, Offices.TRILLION));
        for (int number = 3; number < 8; number++) {
            check.due("deduction", number, x.deduction(true, 0, 0, 0, 0));
            check.due("deductions", number + 1, x.count(1));
        }
        check.refused("a ninth", Check.UNSUPPORTED, () -> x.deduction(true, 0, 0, 0, 0));
        check.refused("a wrong ninth", Check.ARGUMENT, () -> x.deduction(true, 0, -1, 0, 0));
        check.due("deductions", 8, x.count(1));
    }

    private static void promise5Wrong() {
        PayLedger x = new PayLedger();
        long[][] wrong = {
            {-1, 0, 0, 0}, {3, 0, 0, 0}, {Integer.MAX_VALUE, 0, 0, 0},
            {0, -1, 0, 0}, {0, Offices.BILLION + 1, 0, 0},
            {1, -1, 0, 0}, {1, 1000001, 0, 0}, {2, -1, 0, 0}, {2, 1000001, 0, 0},
            {0, 0, -2, 0}, {0, 0, Offices.TRILLION + 1, 0}, {1, 0, Long.MIN_VALUE, 0},
            {0, 0, 0, -1}, {1, 0, 0, -1}, {2, 0, 0, -1},
            {0, 0, 0, Offices.TRILLION + 1}, {1, 0, 0, Offices.TRILLION + 1}, {2, 0, 0, Offices.TRILLION + 1}};
        for (long[] row : wrong) {
            check.refused("deduction " + java.util.Arrays.toString(row), Check.ARGUMENT,
                    () -> x.deduction(true, (int) row[0], row[1], row[2], row[3]));
        }
        check.due("deductions", 0, x.count(1));
    }

    private static void promise8Enrol() {
        PayLedger x = Offices.untaxed();
        x.deduction(false, 0, 7, PayLedger.NONE, 0);
        x.deduction(false, 0, 20, PayLedger.NONE, 0);
        check.due("without any", 100, x.ask(0, 100, false));
        check.dueTrue("off while off", !x.enrol(0, 0, false));
        check.dueTrue("on while off", x.enrol(0, 0, true));
        check.dueTrue("on while on", !x.enrol(0, 0, true));
        check.due("with the first", 93, x.ask(0, 100, false));
        x.pay(0, 100, false);
        check.dueTrue("the second on", x.enrol(0, 1, true));
        check.due("with both", 73, x.ask(0, 100, false));
        check.dueTrue("the first off", x.enrol(0, 0, false));
        check.due("with the second", 80, x.ask(0, 100, false));
        check.due("the pay that came has its own", 93, x.line(0, 0, 6));
        x.employ(0, 12, 0);
        check.due("another worker has none", 100, x.ask(1, 100, false));
        check.refused("no such worker", Check.INDEX, () -> x.enrol(2, 0, true));
        check.refused("no such worker", Check.INDEX, () -> x.enrol(-1, 0, true));
        check.refused("no such deduction", Check.INDEX, () -> x.enrol(0, 2, true));
        check.refused("no such deduction", Check.INDEX, () -> x.enrol(0, -1, false));
        check.refused("no such deduction", Check.INDEX, () -> x.enrol(0, 8, true));
        check.refused("no such deduction", Check.INDEX, () -> x.enrol(0, 32, true));
    }

    private static void sums() {
        PayLedger x = Offices.untaxed();
        x.deduction(true, 0, 30, PayLedger.NONE, 0);
        x.enrol(0, 0, true);
        check.due("a sum of a usual pay", 70, x.ask(0, 100, false));
        check.due("no sum of a bonus", 100, x.ask(0, 100, true));
        check.due("not more than is left", 0, x.ask(0, 29, false));
    }

    private static void rates() {
        PayLedger x = Offices.untaxed();
        x.deduction(false, 1, 50000, PayLedger.NONE, 0);
        x.enrol(0, 0, true);
        long[][] parts = {{0, 0}, {9, 0}, {10, 1}, {29, 1}, {30, 2}, {Offices.BILLION, 50000000}};
        for (long[] row : parts) {
            check.due("net of " + row[0], row[0] - row[1], x.ask(0, row[0], false));
            check.due("net of a bonus of " + row[0], row[0] - row[1], x.ask(0, row[0], true));
        }
        PayLedger y = Offices.untaxed();
        y.deduction(true, 1, 499999, PayLedger.NONE, 0);
        y.deduction(true, 1, 500000, PayLedger.NONE, 0);
        y.enrol(0, 0, true);
        check.due("just below a half", 1, y.ask(0, 1, false));
        y.enrol(0, 0, false);
        y.enrol(0, 1, true);
        check.due("a half is rounded up", 0, y.ask(0, 1, false));
    }

    private static void bases() {
        PayLedger x = Offices.untaxed();
        x.deduction(true, 2, 100000, PayLedger.NONE, 1000);
        x.pay(0, 300, false);
        x.enrol(0, 0, true);
        x.pay(0, 400, true);
        x.pay(0, 500, false);
        x.pay(0, 500, false);
        check.due("a pay ahead, without it", 0, x.part(0, 0, 0));
        check.due("within the base", 40, x.part(0, 1, 0));
        check.due("what pays ahead leave of the base", 30, x.part(0, 2, 0));
        check.due("behind the base", 0, x.part(0, 3, 0));
        x.correct(0, 0, 0);
        check.due("more of the base after a correction", 50, x.part(0, 2, 0));
        check.due("more of the base after a correction", 10, x.part(0, 3, 0));
        x.settle(0);
        x.close();
        x.pay(0, 2000, false);
        check.due("a base for each year", 100, x.part(0, 0, 0));
        PayLedger y = Offices.untaxed();
        y.deduction(false, 2, 1000000, PayLedger.NONE, 10);
        y.enrol(0, 0, true);
        y.pay(0, 9, false);
        y.pay(0, 5, false);
        y.pay(0, 5, false);
        check.due("one below the base", 9, y.part(0, 0, 0));
        check.due("the last one of the base", 1, y.part(0, 1, 0));
        check.due("nothing of the base", 0, y.part(0, 2, 0));
    }

    private static void caps() {
        PayLedger x = Offices.untaxed();
        x.deduction(false, 0, 40, 100, 0);
        x.deduction(false, 0, 40, 0, 0);
        x.enrol(0, 0, true);
        x.enrol(0, 1, true);
        long[] due = {40, 40, 20, 0};
        for (int i = 0; i < due.length; i++) {
            x.pay(0, 1000, false);
            check.due("part " + i, due[i], x.part(0, i, 0));
            check.due("part of a cap of 0", 0, x.part(0, i, 1));
        }
        check.due("all of it", 100, x.deducted(0, 0));
        x.correct(0, 0, 10);
        check.due("what is left of the cap", 40, x.part(0, 2, 0));
        check.due("what is left of the cap", 10, x.part(0, 3, 0));
        x.correct(0, 0, 10000);
        x.settle(0);
        x.close();
        x.pay(0, 1000, false);
        check.due("a cap for each year", 40, x.part(0, 0, 0));
    }

    private static void orderAndWhatIsLeft() {
        PayLedger x = Offices.withWorker(1, 0);
        x.deduction(false, 1, 300000, PayLedger.NONE, 0);
        x.deduction(true, 0, 700, PayLedger.NONE, 0);
        x.deduction(false, 0, 800, PayLedger.NONE, 0);
        x.deduction(true, 0, 600, PayLedger.NONE, 0);
        for (int i = 0; i < 4; i++) {
            x.enrol(0, i, true);
        }
        x.change(0, 3, 11);
        x.pay(0, 1000, false);
        long[] partsOfLittle = {0, 700, 0, 300};
        for (int i = 0; i < 4; i++) {
            check.due("part " + i, partsOfLittle[i], x.part(0, 0, i));
        }
        x.pay(0, 2000, false);
        // 700 left for the tax of 10%: 70; 11 more; then 600 by the rate, and 19 are left of 800.
        long[] parts = {600, 700, 19, 600};
        for (int i = 0; i < 4; i++) {
            check.due("part " + i, parts[i], x.part(0, 1, i));
        }
        long[] lines = {2000, 1300, 700, 70, 11, 619, 0, 0, 0};
        for (int what = 0; what < lines.length; what++) {
            check.due("line " + what, lines[what], x.line(0, 1, what));
        }
    }
}
