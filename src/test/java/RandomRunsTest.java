import java.util.Random;

/** Long runs of calls, always the same ones, whose every answer must be the model's. */
public final class RandomRunsTest {
    private static final int RUNS = 600;
    // The document promises nothing behind an object's 512th call.
    private static final int CALLS = 512;
    private static final int[] PERIODS = {1, 2, 4, 12, 13, 24, 26, 52};
    private static final Check check = new Check();

    private final Random random;
    private final PayLedger x = new PayLedger();
    private final Model y = new Model();
    // How wide the choice of workers is: with few of them each has many pays.
    private final int workers;
    private final boolean calm;
    private String told = "";

    private RandomRunsTest(int seed) {
        random = new Random(seed);
        workers = seed % 3 == 0 ? 1 : seed % 3 == 1 ? 3 : 11;
        calm = seed % 2 == 0;
    }

    public static void main(String[] args) {
        for (int seed = 1; seed <= RUNS; seed++) {
            new RandomRunsTest(seed).run(seed);
        }
        check.end("RandomRunsTest");
    }

    private void run(int seed) {
        int calls = 0;
        while (calls < CALLS) {
            boolean settingUp = calls < 40;
            Check.Call[] pair = settingUp ? setUp() : anyCall();
            String want = Check.outcome(pair[1]);
            String got = Check.outcome(pair[0]);
            calls++;
            check.due("run " + seed + ", call " + calls + ": " + told, want, got);
        }
    }

    private Check.Call[] setUp() {
        switch (random.nextInt(8)) {
            case 0:
                return table();
            case 1:
            case 2:
            case 3:
                return stage();
            case 4:
                return y.count(0) == 0 ? table() : employ();
            case 5:
                return deduction();
            case 6:
                return enrol();
            default:
                return change();
        }
    }

    private Check.Call[] anyCall() {
        int k = random.nextInt(100);
        if (k < 24) {
            return pay();
        }
        if (k < 32) {
            return ask();
        }
        if (k < 42) {
            return correct();
        }
        if (k < 54) {
            return line();
        }
        if (k < 60) {
            return part();
        }
        if (k < 66) {
            return sum();
        }
        if (k < 69) {
            return deducted();
        }
        if (k < 75) {
            return settle();
        }
        if (k < 78) {
            return duty();
        }
        if (k < 80) {
            return close();
        }
        if (k < 84) {
            return statement();
        }
        if (k < 87) {
            return office();
        }
        if (k < 90) {
            return count();
        }
        return k < 93 ? change() : k < 96 ? enrol() : k < 97 ? bonus() : k < 98 ? tax() : setUp();
    }

    private Check.Call[] both(String call, Check.Call ofLedger, Check.Call ofModel) {
        told = call;
        return new Check.Call[] {ofLedger, ofModel};
    }

    private int index(int most) {
        return random.nextInt(40) == 0 ? new int[] {-1, most, most + 1}[random.nextInt(3)] : random.nextInt(most);
    }

    private int worker() {
        return index(Math.max(1, Math.min(workers, y.count(2))));
    }

    private int pays() {
        int most = Math.max(1, y.count(4));
        return index(Math.min(60, most));
    }

    private int rate() {
        return (int) pick(1000000, 300000);
    }

    /** Mostly an ordinary number; now and then an edge or a wrong one. */
    private long pick(long most, long usual) {
        switch (random.nextInt(calm ? 60 : 12)) {
            case 0:
                return 0;
            case 1:
                return most;
            case 2:
                return most - random.nextInt(3);
            case 3:
                return random.nextInt(4) == 0 ? most + 1 : 1;
            case 4:
                return random.nextInt(4) == 0 ? -1 - random.nextInt(2) : 2;
            case 5:
                return (long) (random.nextDouble() * most);
            default:
                return random.nextInt(4) == 0 ? random.nextInt(20) : (long) (random.nextDouble() * usual);
        }
    }

    private Check.Call[] table() {
        return both("table()", () -> x.table(), () -> y.table());
    }

    private Check.Call[] stage() {
        int table = index(Math.max(1, y.count(0)));
        long floor = random.nextInt(3) == 0 ? 0 : pick(Offices.TRILLION, 30000000);
        int rate = rate();
        return both("stage(" + table + ", " + floor + ", " + rate + ")",
                () -> x.stage(table, floor, rate), () -> y.stage(table, floor, rate));
    }

    private Check.Call[] tax() {
        int table = index(Math.max(1, y.count(0)));
        long amount = pick(Offices.TRILLION, 50000000);
        return both("tax(" + table + ", " + amount + ")", () -> x.tax(table, amount), () -> y.tax(table, amount));
    }

    private Check.Call[] deduction() {
        boolean early = random.nextBoolean();
        int sort = index(3);
        long size = sort == 0 ? pick(Offices.BILLION, 100000) : rate();
        long cap = random.nextBoolean() ? -1 : pick(Offices.TRILLION, 1000000);
        long base = pick(Offices.TRILLION, 10000000);
        return both("deduction(" + early + ", " + sort + ", " + size + ", " + cap + ", " + base + ")",
                () -> x.deduction(early, sort, size, cap, base), () -> y.deduction(early, sort, size, cap, base));
    }

    private Check.Call[] employ() {
        int table = index(Math.max(1, y.count(0)));
        int periods = random.nextInt(20) == 0 ? random.nextInt(60) - 2 : PERIODS[random.nextInt(8)];
        int method = index(2);
        return both("employ(" + table + ", " + periods + ", " + method + ")",
                () -> x.employ(table, periods, method), () -> y.employ(table, periods, method));
    }

    private Check.Call[] change() {
        int worker = worker();
        int what = index(6);
        long v = switch (what) {
            case 0 -> index(2);
            case 1 -> pick(Offices.TRILLION, 2000000);
            case 2 -> pick(Offices.TRILLION, 300000);
            case 3 -> pick(Offices.BILLION, 20000);
            case 4 -> index(Math.max(1, y.count(0)));
            default -> random.nextInt(20) == 0 ? random.nextInt(60) - 2 : PERIODS[random.nextInt(8)];
        };
        return both("change(" + worker + ", " + what + ", " + v + ")", () -> {
            x.change(worker, what, v);
            return 0;
        }, () -> {
            y.change(worker, what, v);
            return 0;
        });
    }

    private Check.Call[] enrol() {
        int worker = worker();
        int deduction = index(Math.max(1, y.count(1)));
        boolean on = random.nextInt(4) != 0;
        return both("enrol(" + worker + ", " + deduction + ", " + on + ")",
                () -> x.enrol(worker, deduction, on) ? 1 : 0, () -> y.enrol(worker, deduction, on) ? 1 : 0);
    }

    private Check.Call[] bonus() {
        int rate = rate();
        return both("bonus(" + rate + ")", () -> {
            x.bonus(rate);
            return 0;
        }, () -> {
            y.bonus(rate);
            return 0;
        });
    }

    private Check.Call[] pay() {
        int worker = worker();
        long gross = pick(Offices.BILLION, 2000000);
        boolean bonus = random.nextInt(5) == 0;
        return both("pay(" + worker + ", " + gross + ", " + bonus + ")",
                () -> x.pay(worker, gross, bonus), () -> y.pay(worker, gross, bonus));
    }

    private Check.Call[] ask() {
        int worker = worker();
        long gross = pick(Offices.BILLION, 2000000);
        boolean bonus = random.nextInt(5) == 0;
        return both("ask(" + worker + ", " + gross + ", " + bonus + ")",
                () -> x.ask(worker, gross, bonus), () -> y.ask(worker, gross, bonus));
    }

    private Check.Call[] correct() {
        int worker = worker();
        int pay = pays();
        long gross = pick(Offices.BILLION, 2000000);
        return both("correct(" + worker + ", " + pay + ", " + gross + ")",
                () -> x.correct(worker, pay, gross), () -> y.correct(worker, pay, gross));
    }

    private Check.Call[] line() {
        int worker = worker();
        int pay = pays();
        int what = index(9);
        return both("line(" + worker + ", " + pay + ", " + what + ")",
                () -> x.line(worker, pay, what), () -> y.line(worker, pay, what));
    }

    private Check.Call[] part() {
        int worker = worker();
        int pay = pays();
        int deduction = index(Math.max(1, y.count(1)));
        return both("part(" + worker + ", " + pay + ", " + deduction + ")",
                () -> x.part(worker, pay, deduction), () -> y.part(worker, pay, deduction));
    }

    private Check.Call[] sum() {
        int worker = worker();
        int what = index(11);
        return both("sum(" + worker + ", " + what + ")", () -> x.sum(worker, what), () -> y.sum(worker, what));
    }

    private Check.Call[] deducted() {
        int worker = worker();
        int deduction = index(Math.max(1, y.count(1)));
        return both("deducted(" + worker + ", " + deduction + ")",
                () -> x.deducted(worker, deduction), () -> y.deducted(worker, deduction));
    }

    private Check.Call[] settle() {
        int worker = worker();
        return both("settle(" + worker + ")", () -> x.settle(worker), () -> y.settle(worker));
    }

    private Check.Call[] duty() {
        int worker = worker();
        return both("duty(" + worker + ")", () -> x.duty(worker), () -> y.duty(worker));
    }

    private Check.Call[] close() {
        return both("close()", () -> x.close(), () -> y.close());
    }

    private Check.Call[] statement() {
        int worker = worker();
        int year = index(Math.max(1, y.count(3)));
        int what = index(11);
        return both("statement(" + worker + ", " + year + ", " + what + ")",
                () -> x.statement(worker, year, what), () -> y.statement(worker, year, what));
    }

    private Check.Call[] office() {
        int what = index(11);
        return both("office(" + what + ")", () -> x.office(what), () -> y.office(what));
    }

    private Check.Call[] count() {
        int what = index(7);
        return both("count(" + what + ")", () -> x.count(what), () -> y.count(what));
    }
}
