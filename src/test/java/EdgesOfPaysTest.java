/** The boundary cases of promises 10 to 13: pay, ask, correct, line; and of the PAYS of promise 14: part. */
public final class EdgesOfPaysTest {
    private static final long BILLION = Offices.BILLION;
    private static final long[] NO_GROSS = {Long.MIN_VALUE, -2, -1, BILLION + 1, BILLION + 2, 1L << 32, Long.MAX_VALUE};
    private static final Check check = new Check();

    public static void main(String[] args) {
        check.run(EdgesOfPaysTest::grossOfPay);
        check.run(EdgesOfPaysTest::has60);
        check.run(EdgesOfPaysTest::askAsPay);
        check.run(EdgesOfPaysTest::askLeavesNoMark);
        check.run(EdgesOfPaysTest::grossOfAsk);
        check.run(EdgesOfPaysTest::has60ForAsk);
        check.run(EdgesOfPaysTest::howManyNets);
        check.run(EdgesOfPaysTest::noSuchPayToCorrect);
        check.run(EdgesOfPaysTest::grossOfCorrect);
        check.run(EdgesOfPaysTest::lines);
        check.run(EdgesOfPaysTest::noSuchPayOfLine);
        check.run(EdgesOfPaysTest::anotherWhat);
        check.run(EdgesOfPaysTest::noSuchPayOfPart);
        check.end("EdgesOfPaysTest");
    }

    /** Worker 0 had two pays in the year before, and has none now. */
    private static PayLedger noPays() {
        PayLedger x = Offices.busy();
        x.close();
        return x;
    }

    /** Worker 0 has 59 pays. */
    private static PayLedger oneShort() {
        PayLedger x = Offices.withWorker(12, 1);
        for (int i = 0; i < 59; i++) {
            x.pay(0, 50000 + i * 1000, i % 4 == 3);
        }
        return x;
    }

    private static void grossOfPay() {
        check.sentence("10: IllegalArgumentException: gross is not 0 to 1000000000");
        for (boolean bonus : new boolean[] {false, true}) {
            for (long gross : new long[] {0, 1, BILLION - 1, BILLION}) {
                PayLedger x = Offices.untaxed();
                check.due("a pay of " + gross, 0, x.pay(0, gross, bonus));
                check.due("its gross", gross, x.line(0, 0, 0));
                check.due("its net", gross, x.line(0, 0, 6));
            }
            check.refusedEach("a pay of", Check.ARGUMENT, Offices::busy, (x, gross) -> x.pay(0, gross, bonus),
                    NO_GROSS);
            check.refusedEach("a first pay of", Check.ARGUMENT, EdgesOfPaysTest::noPays,
                    (x, gross) -> x.pay(0, gross, bonus), NO_GROSS);
        }
    }

    private static void has60() {
        check.sentence("10: UnsupportedOperationException: the WORKER has 60");
        for (boolean bonus : new boolean[] {false, true}) {
            check.due("the sixtieth", 59, oneShort().pay(0, 5, bonus));
            check.refusedEach("one more, of", Check.UNSUPPORTED, Offices::fullOfPays,
                    (x, gross) -> x.pay(0, gross, bonus), 0, BILLION);
            check.due("another worker has one", 1, Offices.fullOfPays().pay(1, 5, bonus));
            PayLedger x = Offices.fullOfPays();
            x.close();
            check.due("none in the next year", 0, x.pay(0, 5, bonus));
        }
    }

    private static void askAsPay() {
        check.sentence("11: What the NET of such a PAY would be, if it came now");
        Twins.Maker[] makers = {Offices::busy, Offices::full, EdgesOfPaysTest::noPays, EdgesOfPaysTest::oneShort};
        for (Twins.Maker maker : makers) {
            for (boolean bonus : new boolean[] {false, true}) {
                for (long gross : new long[] {0, 1, 123456, BILLION}) {
                    PayLedger x = maker.make();
                    long asked = x.ask(0, gross, bonus);
                    int pay = x.pay(0, gross, bonus);
                    check.due("net of " + gross, asked, x.line(0, pay, 6));
                    check.due("paid of " + gross, asked, x.line(0, pay, 7));
                }
            }
        }
    }

    private static void askLeavesNoMark() {
        check.sentence("11: if it came now (it does not come)");
        for (boolean bonus : new boolean[] {false, true}) {
            check.due("nothing tells that it was asked", "",
                    Twins.difference(Offices::busy, x -> x.ask(0, 345678, bonus)));
            check.due("nothing tells that it was asked", "",
                    Twins.difference(EdgesOfPaysTest::noPays, x -> x.ask(0, BILLION, bonus)));
            check.due("nothing tells that it was asked", "",
                    Twins.difference(EdgesOfPaysTest::oneShort, x -> x.ask(0, BILLION, bonus)));
        }
    }

    private static void grossOfAsk() {
        check.sentence("11: Exceptions as of pay(): gross is not 0 to 1000000000");
        PayLedger y = Offices.untaxed();
        for (boolean bonus : new boolean[] {false, true}) {
            for (long gross : new long[] {0, 1, BILLION - 1, BILLION}) {
                check.due("net of " + gross, gross, y.ask(0, gross, bonus));
            }
            check.refusedEach("asking for", Check.ARGUMENT, Offices::busy, (x, gross) -> x.ask(0, gross, bonus),
                    NO_GROSS);
        }
    }

    private static void has60ForAsk() {
        check.sentence("11: Exceptions as of pay(): the WORKER has 60");
        for (boolean bonus : new boolean[] {false, true}) {
            check.takenEach("asking for a sixtieth", EdgesOfPaysTest::oneShort,
                    (x, gross) -> x.ask(0, gross, bonus), 0, BILLION);
            check.refusedEach("asking for one more, of", Check.UNSUPPORTED, Offices::fullOfPays,
                    (x, gross) -> x.ask(0, gross, bonus), 0, BILLION);
            check.takenEach("asking for another worker", Offices::fullOfPays,
                    (x, gross) -> x.ask(1, gross, bonus), 5);
        }
    }

    private static void howManyNets() {
        check.sentence("12: of how many PAYS the NET is another one than ahead of this call");
        PayLedger x = Offices.untaxed();
        x.deduction(false, 1, 1000000, 100, 0);
        x.enrol(0, 0, true);
        for (int i = 0; i < 60; i++) {
            x.pay(0, 50, false);
        }
        check.due("none: the same gross", 0, x.correct(0, 0, 50));
        // All of the first is deducted, before and after; the third has the coin of the CAP that is left.
        check.due("one that is not put right itself", 1, x.correct(0, 0, 49));
        check.due("its net", 49, x.line(0, 2, 6));
        check.due("three, one of them put right", 3, x.correct(0, 0, 200));
        check.due("two, one of them put right", 2, x.correct(0, 0, 50));
        check.due("the last one", 1, x.correct(0, 59, 51));
        check.due("none: ahead of this call, not as it was paid", 0, x.correct(0, 59, 51));
        PayLedger y = Offices.withWorker(1, 1);
        for (int i = 0; i < 60; i++) {
            y.pay(0, 100000, false);
        }
        // So much is withheld of the first one then that nothing is due of any other.
        check.due("all sixty", 60, y.correct(0, 0, BILLION));
        check.due("all sixty back", 60, y.correct(0, 0, 100000));
        check.due("as they were paid", 0, y.sum(0, 10));
    }

    /** With no pays at all, with some and with all that can be; worker 1 has fewer than worker 0. */
    private static void noSuchPay(Check.Numbered ofWorker0, Check.Numbered ofWorker1) {
        long[] far = {Integer.MIN_VALUE, -2, -1, 60, 61, Integer.MAX_VALUE};
        check.refusedEach("pay of none", Check.NO_SUCH, EdgesOfPaysTest::noPays, ofWorker0, far);
        check.refusedEach("pay of none", Check.NO_SUCH, EdgesOfPaysTest::noPays, ofWorker0, 0, 1);
        check.takenEach("pay of two", Offices::busy, ofWorker0, 0, 1);
        check.refusedEach("pay of two", Check.NO_SUCH, Offices::busy, ofWorker0, far);
        check.refusedEach("pay of two", Check.NO_SUCH, Offices::busy, ofWorker0, 2, 3, 59);
        check.takenEach("pay of one", Offices::busy, ofWorker1, 0);
        check.refusedEach("pay of one", Check.NO_SUCH, Offices::busy, ofWorker1, -1, 1, 2);
        check.takenEach("pay of sixty", Offices::fullOfPays, ofWorker0, 0, 59);
        check.refusedEach("pay of sixty", Check.NO_SUCH, Offices::fullOfPays, ofWorker0, far);
        Twins.Maker asked = () -> {
            PayLedger x = noPays();
            x.ask(0, 100, false);
            return x;
        };
        check.refusedEach("pay that was only asked for", Check.NO_SUCH, asked, ofWorker0, 0);
    }

    private static void noSuchPayToCorrect() {
        check.sentence("12: NoSuchElementException: there is no such PAY");
        noSuchPay((x, pay) -> x.correct(0, (int) pay, 5), (x, pay) -> x.correct(1, (int) pay, 5));
    }

    private static void grossOfCorrect() {
        check.sentence("12: IllegalArgumentException: as of pay()");
        for (int pay = 0; pay <= 1; pay++) {
            int p = pay;
            for (long gross : new long[] {0, 1, BILLION - 1, BILLION}) {
                PayLedger x = Offices.busy();
                x.correct(0, p, gross);
                check.due("gross put right", gross, x.line(0, p, 0));
            }
            check.refusedEach("pay " + p + " put right to", Check.ARGUMENT, Offices::busy,
                    (x, gross) -> x.correct(0, p, gross), NO_GROSS);
        }
    }

    private static void lines() {
        check.sentence("13: what 0: GROSS, 1 all EARLY, 2 INCOME, 3 BASIC, 4 MORE, 5 all LATE, 6 NET, 7 PAID, 8: 1 of a"
                + " BONUS, else 0");
        PayLedger x = Offices.busy();
        x.correct(0, 1, 200000);
        // 12 times 475000 less 600000: 1140000 by 12. Then a bonus of 200000, paid as one of 100000.
        long[][] due = {{500000, 25000, 475000, 95000, 1000, 31000, 348000, 348000, 0},
            {200000, 10000, 190000, 47500, 0, 12400, 130100, 65050, 1}};
        for (int pay = 0; pay < due.length; pay++) {
            for (int what = 0; what <= 8; what++) {
                check.due("line(0, " + pay + ", " + what + ")", due[pay][what], x.line(0, pay, what));
            }
        }
    }

    private static void noSuchPayOfLine() {
        check.sentence("13: NoSuchElementException: there is no such PAY");
        for (int what = 0; what <= 8; what += 4) {
            int w = what;
            noSuchPay((x, pay) -> x.line(0, (int) pay, w), (x, pay) -> x.line(1, (int) pay, w));
        }
    }

    private static void noSuchPayOfPart() {
        check.sentence("14: NoSuchElementException: there is no such PAY");
        noSuchPay((x, pay) -> x.part(0, (int) pay, 0), (x, pay) -> x.part(1, (int) pay, 0));
    }

    private static void anotherWhat() {
        check.sentence("13: IllegalArgumentException: another what");
        for (int pay = 0; pay <= 1; pay++) {
            int p = pay;
            Check.Numbered call = (x, what) -> x.line(0, p, (int) what);
            check.takenEach("what", Offices::busy, call, 0, 8);
            check.refusedEach("what", Check.ARGUMENT, Offices::busy, call,
                    Integer.MIN_VALUE, -2, -1, 9, 10, Integer.MAX_VALUE);
        }
    }
}
