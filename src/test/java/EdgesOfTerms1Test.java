/** The boundary cases that 'Terms', 1 names. */
public final class EdgesOfTerms1Test {
    private static final int[] PERIODS = {1, 2, 4, 12, 13, 24, 26, 52};
    private static final int[] RATES = {0, 1, 499999, 999999, 1000000};
    // Amounts, and what one millionth of each is by ROUND.
    private static final long[][] MILLIONTHS = {{0, 0}, {499999, 0}, {500000, 1}, {500001, 1}, {1000000, 1},
        {1499999, 1}, {1500000, 2}, {1500001, 2}, {999499999, 999}, {999500000, 1000}};
    private static final Check check = new Check();

    public static void main(String[] args) {
        check.run(EdgesOfTerms1Test::amountsAreLongs);
        check.run(EdgesOfTerms1Test::rate);
        check.run(EdgesOfTerms1Test::roundOfTax);
        check.run(EdgesOfTerms1Test::roundOfDeductions);
        check.run(EdgesOfTerms1Test::roundOfBonus);
        check.run(EdgesOfTerms1Test::roundOfMethod0);
        check.run(EdgesOfTerms1Test::roundOfMethod1);
        check.run(EdgesOfTerms1Test::sixTables);
        check.run(EdgesOfTerms1Test::twelveStages);
        check.run(EdgesOfTerms1Test::risingFloors);
        check.run(EdgesOfTerms1Test::amountsAtFloors);
        check.run(EdgesOfTerms1Test::addedUpExactly);
        check.run(EdgesOfTerms1Test::tableWithoutStages);
        check.run(EdgesOfTerms1Test::eightDeductions);
        check.run(EdgesOfTerms1Test::tenWorkers);
        check.run(EdgesOfTerms1Test::zeroAtFirst);
        check.run(EdgesOfTerms1Test::noneAtFirst);
        check.run(EdgesOfTerms1Test::bonusRateAtFirst);
        check.end("EdgesOfTerms1Test");
    }

    private static void amountsAreLongs() {
        check.sentence("AMOUNTS are longs, in the least coin");
        PayLedger x = Offices.allTaken(52, 1);
        x.deduction(false, 1, 1000000, PayLedger.NONE, 0);
        for (int i = 0; i < 60; i++) {
            x.pay(0, Offices.BILLION, false);
        }
        check.due("gross of all", 60 * Offices.BILLION, x.sum(0, 0));
        check.due("basic of all", 60 * Offices.BILLION, x.sum(0, 3));
        check.due("basic of the last one", Offices.BILLION, x.line(0, 59, 3));
        check.due("duty", 60 * Offices.BILLION, x.duty(0));
        x.close();
        check.due("stated", 60 * Offices.BILLION, x.statement(0, 0, 9));
    }

    private static void rate() {
        check.sentence("A RATE is 0 to 1000000, millionths");
        for (int rate : RATES) {
            PayLedger x = Offices.freeTable();
            check.due("a stage of rate " + rate, 1, x.stage(0, 0, rate));
            check.due("of a million", rate, x.tax(0, 1000000));
            check.due("of the highest amount", rate * 1000000L, x.tax(0, Offices.TRILLION));
            PayLedger y = Offices.untaxed();
            y.deduction(true, 1, rate, PayLedger.NONE, 0);
            y.deduction(false, 2, rate, PayLedger.NONE, Offices.TRILLION);
            y.bonus(rate);
            check.due("a bonus taxed by rate " + rate, 1000000 - rate, y.ask(0, 1000000, true));
            y.enrol(0, 0, true);
            check.due("a deduction of rate " + rate, 1000000 - rate, y.ask(0, 1000000, false));
            y.enrol(0, 0, false);
            y.enrol(0, 1, true);
            check.due("one within a base of rate " + rate, 1000000 - rate, y.ask(0, 1000000, false));
        }
        long[] none = {Integer.MIN_VALUE, -1, 1000001, Integer.MAX_VALUE};
        check.refusedEach("a stage of rate", Check.ARGUMENT, Offices::freeTable,
                (x, rate) -> x.stage(0, 0, (int) rate), none);
        check.refusedEach("a deduction of rate", Check.ARGUMENT, Offices::busy,
                (x, rate) -> x.deduction(true, 1, rate, PayLedger.NONE, 0), none);
        check.refusedEach("one within a base of rate", Check.ARGUMENT, Offices::busy,
                (x, rate) -> x.deduction(false, 2, rate, PayLedger.NONE, 0), none);
        check.refusedEach("a bonus rate", Check.ARGUMENT, Offices::busy, (x, rate) -> x.bonus((int) rate), none);
    }

    private static void roundOfTax() {
        check.sentence("ROUND is the whole number nearest, of two the greater one: TAX by 1000000");
        PayLedger x = Offices.freeTable();
        x.stage(0, 0, 1);
        for (long[] row : MILLIONTHS) {
            check.due("a millionth of " + row[0], row[1], x.tax(0, row[0]));
        }
        PayLedger y = Offices.freeTable();
        y.stage(0, 0, 500000);
        for (int amount = 0; amount < 10; amount++) {
            check.due("the half of " + amount, (amount + 1) / 2, y.tax(0, amount));
        }
        check.due("the half of the highest odd one", 500000000000L, y.tax(0, Offices.TRILLION - 1));
    }

    private static void roundOfDeductions() {
        check.sentence("ROUND is the whole number nearest, of two the greater one: DEDUCTIONS of SORT 1 and 2");
        for (boolean early : new boolean[] {true, false}) {
            for (int sort = 1; sort <= 2; sort++) {
                PayLedger x = Offices.untaxed();
                x.deduction(early, sort, 1, PayLedger.NONE, Offices.TRILLION);
                x.enrol(0, 0, true);
                for (long[] row : MILLIONTHS) {
                    check.due("sort " + sort + " of " + row[0], row[0] - row[1], x.ask(0, row[0], false));
                    check.due("sort " + sort + " of a bonus of " + row[0], row[0] - row[1], x.ask(0, row[0], true));
                }
            }
        }
    }

    private static void roundOfBonus() {
        check.sentence("ROUND is the whole number nearest, of two the greater one: BASIC of a BONUS");
        PayLedger x = Offices.untaxed();
        x.bonus(1);
        for (long[] row : MILLIONTHS) {
            check.due("a bonus of " + row[0], row[0] - row[1], x.ask(0, row[0], true));
        }
    }

    private static void roundOfMethod0() {
        check.sentence("ROUND is the whole number nearest, of two the greater one: DUTY by PERIODS");
        for (int periods : PERIODS) {
            PayLedger x = Offices.allTaken(periods, 0);
            for (int credit = 0; credit <= periods; credit++) {
                x.change(0, 2, credit);
                // DUTY is 10 PERIODS less the CREDIT: the part that is missing to 10 is CREDIT / PERIODS.
                long basic = 2 * credit <= periods ? 10 : 9;
                check.due(periods + " periods, credit " + credit, 10 - basic, x.ask(0, 10, false));
            }
        }
    }

    private static void roundOfMethod1() {
        check.sentence("ROUND is the whole number nearest, of two the greater one: DUTY n by PERIODS");
        for (int periods : PERIODS) {
            PayLedger x = Offices.allTaken(periods, 1);
            x.pay(0, 0, false);
            for (int credit = 0; credit <= periods; credit++) {
                x.change(0, 2, credit);
                // n is 2, DUTY 10 PERIODS less the CREDIT: what is missing to 20 is 2 CREDIT / PERIODS.
                long basic = 4 * credit <= periods ? 20 : 4 * credit <= 3 * periods ? 19 : 18;
                check.due(periods + " periods, credit " + credit, 20 - basic, x.ask(0, 20, false));
            }
        }
    }

    private static void sixTables() {
        check.sentence("TABLES (at most 6, numbered from 0 on)");
        PayLedger x = new PayLedger();
        for (int table = 0; table < 6; table++) {
            check.due("table()", table, x.table());
            x.stage(table, 0, 100000 * (table + 1));
        }
        for (int table = 0; table < 6; table++) {
            check.due("tax of table " + table, table + 1, x.tax(table, 10));
            check.due("a worker of table " + table, table, x.employ(table, 1, 0));
            check.due("net of that worker", 10 - (table + 1), x.ask(table, 10, false));
        }
        check.refused("a seventh one", Check.UNSUPPORTED, Offices::full, y -> y.table());
    }

    private static void twelveStages() {
        check.sentence("TABLES have up to 12 STAGES");
        PayLedger x = Offices.freeTable();
        for (int stages = 1; stages <= 12; stages++) {
            check.due("stage()", stages, x.stage(0, stages - 1, stages % 2 == 0 ? 0 : 1000000));
        }
        // Every second coin is taken, up to the floor of the twelfth stage.
        for (int amount = 0; amount <= 14; amount++) {
            check.due("tax of " + amount, Math.min(6, (amount + 1) / 2), x.tax(0, amount));
        }
        check.refused("a thirteenth one", Check.UNSUPPORTED, Offices::fullOfStages, y -> y.stage(0, 111, 5));
    }

    private static void risingFloors() {
        check.sentence("with rising FLOORS, the first one 0");
        check.takenEach("a first floor", Offices::freeTable, (x, floor) -> x.stage(0, floor, 5), 0);
        check.refusedEach("a first floor", Check.ARGUMENT, Offices::freeTable, (x, floor) -> x.stage(0, floor, 5),
                -1, 1);
        Twins.Maker two = () -> {
            PayLedger x = Offices.freeTable();
            x.stage(0, 0, 5);
            x.stage(0, 50, 5);
            return x;
        };
        check.takenEach("a floor behind 50", two, (x, floor) -> x.stage(0, floor, 5), 51, 52);
        check.refusedEach("a floor behind 50", Check.ARGUMENT, two, (x, floor) -> x.stage(0, floor, 5),
                50, 49, 1, 0, -1);
    }

    private static void amountsAtFloors() {
        check.sentence("of each STAGE what of the AMOUNT is above its FLOOR, but not above the next one's");
        long top = Offices.TRILLION;
        taxes(new long[] {0, 10, 20, 21, top}, new int[] {1000000, 0, 1000000, 0, 1000000},
                new long[][] {{0, 0}, {1, 1}, {9, 9}, {10, 10}, {11, 10}, {19, 10}, {20, 10}, {21, 11}, {22, 11},
                    {top - 1, 11}, {top, 11}});
        taxes(new long[] {0, 10, 20, 21, top - 1}, new int[] {0, 1000000, 0, 1000000, 0},
                new long[][] {{0, 0}, {1, 0}, {9, 0}, {10, 0}, {11, 1}, {19, 9}, {20, 10}, {21, 10}, {22, 11},
                    {top - 2, top - 13}, {top - 1, top - 12}, {top, top - 12}});
        taxes(new long[] {0, 1}, new int[] {0, 1000000}, new long[][] {{0, 0}, {1, 0}, {2, 1}, {top, top - 1}});
        taxes(new long[] {0, top - 1}, new int[] {0, 1000000}, new long[][] {{top - 2, 0}, {top - 1, 0}, {top, 1}});
    }

    private static void taxes(long[] floors, int[] rates, long[][] due) {
        PayLedger x = Offices.freeTable();
        for (int i = 0; i < floors.length; i++) {
            x.stage(0, floors[i], rates[i]);
        }
        for (long[] row : due) {
            check.due("tax of " + row[0], row[1], x.tax(0, row[0]));
        }
    }

    private static void addedUpExactly() {
        check.sentence("these added up, exactly, then ROUND by 1000000");
        // Rounded one by one, the two parts of 2 would come to 0 in the first row, to 2 in the third.
        taxes(new long[] {0, 1}, new int[] {250000, 250000}, new long[][] {{1, 0}, {2, 1}, {3, 1}});
        taxes(new long[] {0, 1}, new int[] {499999, 500000}, new long[][] {{1, 0}, {2, 1}, {3, 1}});
        taxes(new long[] {0, 1}, new int[] {500000, 500000}, new long[][] {{1, 1}, {2, 1}, {3, 2}});
        taxes(new long[] {0, 1, 2}, new int[] {333333, 333333, 333334}, new long[][] {{1, 0}, {2, 1}, {3, 1}});
        taxes(new long[] {0, 1, 2}, new int[] {166666, 166667, 166666}, new long[][] {{2, 0}, {3, 0}, {4, 1}});
        taxes(new long[] {0, 1}, new int[] {1, 999999},
                new long[][] {{Offices.TRILLION, Offices.TRILLION - 1000001}, {500001, 500001 - 1}});
    }

    private static void tableWithoutStages() {
        check.sentence("(0 of a TABLE without STAGES.)");
        PayLedger x = Offices.freeTable();
        for (long amount : new long[] {0, 1, 1000000, Offices.TRILLION}) {
            check.due("tax of " + amount, 0, x.tax(0, amount));
        }
        x.employ(0, 52, 0);
        x.employ(0, 52, 1);
        for (int worker = 0; worker < 2; worker++) {
            x.pay(worker, Offices.BILLION, false);
            check.due("basic by method " + worker, 0, x.line(worker, 0, 3));
            check.due("duty by method " + worker, 0, x.duty(worker));
        }
        x.close();
        check.due("duty of the statement", 0, x.statement(0, 0, 9));
    }

    private static void eightDeductions() {
        check.sentence("DEDUCTIONS (at most 8, numbered from 0 on)");
        PayLedger x = Offices.untaxed();
        for (int deduction = 0; deduction < 8; deduction++) {
            check.due("deduction()", deduction, x.deduction(deduction % 2 == 0, 0, 1 << deduction, PayLedger.NONE, 0));
        }
        for (int deduction = 0; deduction < 8; deduction++) {
            x.enrol(0, deduction, true);
            int pay = x.pay(0, 1000, false);
            for (int d = 0; d < 8; d++) {
                check.due("part " + d + " of pay " + pay, d <= deduction ? 1 << d : 0, x.part(0, pay, d));
            }
        }
        check.due("all EARLY of the last one", 1 + 4 + 16 + 64, x.line(0, 7, 1));
        check.due("all LATE of the last one", 2 + 8 + 32 + 128, x.line(0, 7, 5));
        check.refused("a ninth one", Check.UNSUPPORTED, Offices::full,
                y -> y.deduction(true, 0, 0, PayLedger.NONE, 0));
    }

    private static void tenWorkers() {
        check.sentence("WORKERS (at most 10, numbered from 0 on)");
        PayLedger x = Offices.freeTable();
        for (int worker = 0; worker < 10; worker++) {
            check.due("employ()", worker, x.employ(0, 12, 0));
            check.due("its first pay", 0, x.pay(worker, 100 + worker, false));
        }
        for (int worker = 0; worker < 10; worker++) {
            check.due("gross of worker " + worker, 100 + worker, x.sum(worker, 0));
        }
        check.due("gross of all", 1045, x.office(0));
        check.refused("an eleventh one", Check.UNSUPPORTED, Offices::full, y -> y.employ(0, 12, 0));
    }

    private static void zeroAtFirst() {
        check.sentence("RELIEF, CREDIT, EXTRA (0 at first)");
        PayLedger x = Offices.allTaken(1, 0);
        x.change(0, 1, 7);
        x.change(0, 2, 7);
        x.change(0, 3, 7);
        x.table();
        x.employ(0, 1, 0);
        x.employ(1, 1, 1);
        // One coin of RELIEF or of CREDIT would leave a coin.
        check.due("no relief, no credit", 0, x.ask(1, 1, false));
        check.due("no extra", 1, x.ask(2, 1, false));
        x.pay(1, 1, false);
        check.due("no relief, no credit for the year", 1, x.duty(1));
        check.due("the first worker has them", 1, x.ask(0, 8, false));
    }

    private static void noneAtFirst() {
        check.sentence("which DEDUCTIONS they have (none at first)");
        PayLedger x = Offices.full();
        PayLedger y = Offices.untaxed();
        for (int deduction = 0; deduction < 8; deduction++) {
            y.deduction(true, 0, 1, PayLedger.NONE, 0);
            y.enrol(0, deduction, true);
        }
        y.employ(0, 12, 0);
        check.due("another one than the first", 100 - 8, y.ask(0, 100, false));
        check.due("nothing is taken", 100, y.ask(1, 100, false));
        for (int deduction = 0; deduction < 8; deduction++) {
            check.dueTrue("off is no other state, " + deduction, !y.enrol(1, deduction, false));
        }
        check.dueTrue("a worker of a full office", !x.enrol(9, 0, false));
    }

    private static void bonusRateAtFirst() {
        check.sentence("The BONUS RATE of the office is 0 at first");
        PayLedger x = Offices.allTaken(1, 0);
        check.due("count(6)", 0, x.count(6));
        x.pay(0, Offices.BILLION, true);
        check.due("basic of a bonus", 0, x.line(0, 0, 3));
        check.due("net of a bonus", Offices.BILLION, x.line(0, 0, 6));
    }
}
