import java.math.BigDecimal;
import java.math.BigInteger;
import java.math.RoundingMode;
import java.util.ArrayList;
import java.util.List;
import java.util.NoSuchElementException;
import java.util.Set;
import java.util.TreeSet;

/** The document once more, slowly: only what was said is kept, and all the rest is worked out when asked for. */
final class Model {
    private static final Set<Long> PERIODS = Set.of(1L, 2L, 4L, 12L, 13L, 24L, 26L, 52L);

    record Stage(long floor, int rate) {
    }

    record Deduction(boolean early, int sort, long size, long cap, long base) {
    }

    static final class Table {
        final List<Stage> stages = new ArrayList<>();
        boolean had = false;
    }

    record Terms(int table, long periods, long method, long relief, long credit, long extra, Set<Integer> deductions) {
    }

    record Input(long gross, boolean bonus, Terms terms, long bonusRate) {
    }

    static final class Result {
        long early;
        long income;
        long basic;
        long more;
        long late;
        long net;
        final long[] parts = new long[8];
    }

    static final class Worker {
        Terms terms;
        final List<Input> inputs = new ArrayList<>();
        final List<Long> paid = new ArrayList<>();
        final List<long[]> statements = new ArrayList<>();
        long settled = 0;
        List<Result> known = null;
    }

    private final List<Table> tables = new ArrayList<>();
    private final List<Deduction> deductions = new ArrayList<>();
    private final List<Worker> workers = new ArrayList<>();
    private long bonusRate = 0;
    private int year = 0;
    private int worked = 0;

    int table() {
        unless(tables.size() < 6, new UnsupportedOperationException());
        tables.add(new Table());
        return tables.size() - 1;
    }

    int stage(int table, long floor, int rate) {
        needTable(table);
        Table t = tables.get(table);
        int n = t.stages.size();
        unless(rate >= 0 && rate <= 1000000, new IllegalArgumentException());
        unless(n == 0 ? floor == 0 : floor > t.stages.get(n - 1).floor() && floor <= 1000000000000L,
                new IllegalArgumentException());
        unless(!t.had, new IllegalStateException());
        unless(n < 12, new UnsupportedOperationException());
        t.stages.add(new Stage(floor, rate));
        return n + 1;
    }

    long tax(int table, long amount) {
        needTable(table);
        unless(amount >= 0 && amount <= 1000000000000L, new IllegalArgumentException());
        return taxBy(table, amount);
    }

    int deduction(boolean early, int sort, long size, long cap, long base) {
        unless(sort >= 0 && sort <= 2, new IllegalArgumentException());
        unless(size >= 0 && size <= (sort == 0 ? 1000000000L : 1000000L), new IllegalArgumentException());
        unless(cap >= -1 && cap <= 1000000000000L, new IllegalArgumentException());
        unless(base >= 0 && base <= 1000000000000L, new IllegalArgumentException());
        unless(deductions.size() < 8, new UnsupportedOperationException());
        deductions.add(new Deduction(early, sort, size, cap, base));
        return deductions.size() - 1;
    }

    int employ(int table, int periods, int method) {
        needTable(table);
        unless(PERIODS.contains((long) periods) && (method == 0 || method == 1), new IllegalArgumentException());
        unless(workers.size() < 10, new UnsupportedOperationException());
        tables.get(table).had = true;
        Worker w = new Worker();
        w.terms = new Terms(table, periods, method, 0, 0, 0, Set.of());
        workers.add(w);
        return workers.size() - 1;
    }

    void change(int worker, int what, long v) {
        Worker w = need(worker);
        Terms t = w.terms;
        unless(what != 4 || v >= 0 && v < tables.size(), new IndexOutOfBoundsException());
        boolean can = switch (what) {
            case 0 -> v == 0 || v == 1;
            case 1, 2 -> v >= 0 && v <= 1000000000000L;
            case 3 -> v >= 0 && v <= 1000000000L;
            case 4 -> true;
            case 5 -> PERIODS.contains(v);
            default -> false;
        };
        unless(can, new IllegalArgumentException());
        if (what == 4) {
            tables.get((int) v).had = true;
        }
        w.terms = new Terms(what == 4 ? (int) v : t.table(), what == 5 ? v : t.periods(), what == 0 ? v : t.method(),
                what == 1 ? v : t.relief(), what == 2 ? v : t.credit(), what == 3 ? v : t.extra(), t.deductions());
    }

    boolean enrol(int worker, int deduction, boolean on) {
        Worker w = need(worker);
        needDeduction(deduction);
        Terms t = w.terms;
        Set<Integer> has = new TreeSet<>(t.deductions());
        boolean other = on ? has.add(deduction) : has.remove(deduction);
        w.terms = new Terms(t.table(), t.periods(), t.method(), t.relief(), t.credit(), t.extra(), has);
        return other;
    }

    void bonus(int rate) {
        unless(rate >= 0 && rate <= 1000000, new IllegalArgumentException());
        bonusRate = rate;
    }

    int pay(int worker, long gross, boolean bonus) {
        long net = ask(worker, gross, bonus);
        Worker w = need(worker);
        w.inputs.add(new Input(gross, bonus, w.terms, bonusRate));
        w.known = null;
        w.paid.add(net);
        worked++;
        return w.inputs.size() - 1;
    }

    long ask(int worker, long gross, boolean bonus) {
        Worker w = need(worker);
        unless(gross >= 0 && gross <= 1000000000L, new IllegalArgumentException());
        unless(w.inputs.size() < 60, new UnsupportedOperationException());
        List<Input> inputs = new ArrayList<>(w.inputs);
        inputs.add(new Input(gross, bonus, w.terms, bonusRate));
        List<Result> results = new ArrayList<>(results(w));
        results.add(work(inputs, results, results.size()));
        return results.get(results.size() - 1).net;
    }

    int correct(int worker, int pay, long gross) {
        Worker w = need(worker);
        needPay(w, pay);
        unless(gross >= 0 && gross <= 1000000000L, new IllegalArgumentException());
        List<Result> before = results(w);
        Input old = w.inputs.get(pay);
        w.inputs.set(pay, new Input(gross, old.bonus(), old.terms(), old.bonusRate()));
        w.known = null;
        List<Result> after = results(w);
        int others = 0;
        for (int i = 0; i < after.size(); i++) {
            others += before.get(i).net == after.get(i).net ? 0 : 1;
        }
        worked += w.inputs.size() - pay;
        return others;
    }

    long line(int worker, int pay, int what) {
        Worker w = need(worker);
        needPay(w, pay);
        unless(what >= 0 && what <= 8, new IllegalArgumentException());
        return lineOf(w, pay, what);
    }

    long part(int worker, int pay, int deduction) {
        Worker w = need(worker);
        needDeduction(deduction);
        needPay(w, pay);
        return results(w).get(pay).parts[deduction];
    }

    long sum(int worker, int what) {
        Worker w = need(worker);
        unless(what >= 0 && what <= 10, new IllegalArgumentException());
        return sumOf(w, what);
    }

    long deducted(int worker, int deduction) {
        Worker w = need(worker);
        needDeduction(deduction);
        return results(w).stream().mapToLong(r -> r.parts[deduction]).sum();
    }

    long settle(int worker) {
        Worker w = need(worker);
        long owed = sumOf(w, 10);
        w.settled += owed;
        return owed;
    }

    long duty(int worker) {
        Worker w = need(worker);
        return dutyBy(w.terms, sumOf(w, 2));
    }

    int close() {
        for (Worker w : workers) {
            unless(sumOf(w, 10) == 0, new IllegalStateException());
        }
        unless(year < 6, new UnsupportedOperationException());
        for (Worker w : workers) {
            long[] lines = new long[11];
            for (int what = 0; what <= 8; what++) {
                lines[what] = sumOf(w, what);
            }
            lines[9] = dutyBy(w.terms, lines[2]);
            lines[10] = lines[3] + lines[4] - lines[9];
            while (w.statements.size() < year) {
                w.statements.add(new long[11]);
            }
            w.statements.add(lines);
            w.inputs.clear();
            w.paid.clear();
            w.known = null;
            w.settled = 0;
        }
        return year++;
    }

    long statement(int worker, int ofYear, int what) {
        Worker w = need(worker);
        unless(ofYear >= 0 && ofYear < year, new NoSuchElementException());
        unless(what >= 0 && what <= 10, new IllegalArgumentException());
        return ofYear < w.statements.size() ? w.statements.get(ofYear)[what] : 0;
    }

    long office(int what) {
        unless(what >= 0 && what <= 10, new IllegalArgumentException());
        return workers.stream().mapToLong(w -> sumOf(w, what)).sum();
    }

    int count(int what) {
        return switch (what) {
            case 0 -> tables.size();
            case 1 -> deductions.size();
            case 2 -> workers.size();
            case 3 -> year;
            case 4 -> workers.stream().mapToInt(w -> w.inputs.size()).sum();
            case 5 -> worked;
            case 6 -> (int) bonusRate;
            default -> -1;
        };
    }

    private static void unless(boolean right, RuntimeException e) {
        if (!right) {
            throw e;
        }
    }

    private void needTable(int table) {
        unless(table >= 0 && table < tables.size(), new IndexOutOfBoundsException());
    }

    private void needDeduction(int deduction) {
        unless(deduction >= 0 && deduction < deductions.size(), new IndexOutOfBoundsException());
    }

    private Worker need(int worker) {
        unless(worker >= 0 && worker < workers.size(), new IndexOutOfBoundsException());
        return workers.get(worker);
    }

    private static void needPay(Worker w, int pay) {
        unless(pay >= 0 && pay < w.inputs.size(), new NoSuchElementException());
    }

    private static long round(BigInteger a, long b) {
        return new BigDecimal(a).divide(BigDecimal.valueOf(b), 0, RoundingMode.HALF_UP).longValueExact();
    }

    private static BigInteger times(long a, long b) {
        return BigInteger.valueOf(a).multiply(BigInteger.valueOf(b));
    }

    private long taxBy(int table, long amount) {
        List<Stage> stages = tables.get(table).stages;
        BigInteger all = BigInteger.ZERO;
        for (int i = 0; i < stages.size(); i++) {
            long top = i + 1 < stages.size() ? stages.get(i + 1).floor() : Long.MAX_VALUE;
            long above = Math.max(0, Math.min(amount, top) - stages.get(i).floor());
            all = all.add(times(above, stages.get(i).rate()));
        }
        return round(all, 1000000);
    }

    private long dutyBy(Terms t, long yearly) {
        return Math.max(0, taxBy(t.table(), Math.max(0, yearly - t.relief())) - t.credit());
    }

    private List<Result> results(Worker w) {
        if (w.known == null) {
            w.known = new ArrayList<>();
            for (int i = 0; i < w.inputs.size(); i++) {
                w.known.add(work(w.inputs, w.known, i));
            }
        }
        return w.known;
    }

    private Result work(List<Input> inputs, List<Result> aheads, int at) {
        Input in = inputs.get(at);
        Result r = new Result();
        long left = in.gross();
        r.early = take(inputs, aheads, at, r, true, left);
        left -= r.early;
        r.income = left;
        r.basic = Math.min(left, basic(inputs, aheads, at, r.income));
        left -= r.basic;
        r.more = in.bonus() ? 0 : Math.min(left, in.terms().extra());
        left -= r.more;
        r.late = take(inputs, aheads, at, r, false, left);
        r.net = left - r.late;
        return r;
    }

    private long take(List<Input> inputs, List<Result> aheads, int at, Result r, boolean early, long all) {
        Input in = inputs.get(at);
        long left = all;
        for (int d = 0; d < deductions.size(); d++) {
            Deduction x = deductions.get(d);
            if (x.early() != early || !in.terms().deductions().contains(d)) {
                continue;
            }
            long grossAhead = 0;
            long partsAhead = 0;
            for (int i = 0; i < at; i++) {
                grossAhead += inputs.get(i).gross();
                partsAhead += aheads.get(i).parts[d];
            }
            long within = Math.min(x.base(), grossAhead + in.gross()) - Math.min(x.base(), grossAhead);
            long part = switch (x.sort()) {
                case 0 -> in.bonus() ? 0 : x.size();
                case 1 -> round(times(in.gross(), x.size()), 1000000);
                default -> round(times(within, x.size()), 1000000);
            };
            if (x.cap() != -1) {
                part = Math.min(part, x.cap() - partsAhead);
            }
            part = Math.min(part, left);
            r.parts[d] = part;
            left -= part;
        }
        return all - left;
    }

    private long basic(List<Input> inputs, List<Result> aheads, int at, long income) {
        Input in = inputs.get(at);
        Terms t = in.terms();
        if (in.bonus()) {
            return round(times(income, in.bonusRate()), 1000000);
        }
        if (t.method() == 0) {
            return round(BigInteger.valueOf(dutyBy(t, income * t.periods())), t.periods());
        }
        long n = 1;
        long sum = income;
        long basics = 0;
        for (int i = 0; i < at; i++) {
            if (!inputs.get(i).bonus()) {
                n++;
                sum += aheads.get(i).income;
                basics += aheads.get(i).basic;
            }
        }
        long yearly = times(sum, t.periods()).divide(BigInteger.valueOf(n)).longValueExact();
        return Math.max(0, round(times(dutyBy(t, yearly), n), t.periods()) - basics);
    }

    private long lineOf(Worker w, int pay, int what) {
        Result r = results(w).get(pay);
        return switch (what) {
            case 0 -> w.inputs.get(pay).gross();
            case 1 -> r.early;
            case 2 -> r.income;
            case 3 -> r.basic;
            case 4 -> r.more;
            case 5 -> r.late;
            case 6 -> r.net;
            case 7 -> w.paid.get(pay);
            default -> w.inputs.get(pay).bonus() ? 1 : 0;
        };
    }

    private long sumOf(Worker w, int what) {
        if (what == 8) {
            return w.inputs.size();
        }
        if (what == 9) {
            return w.settled;
        }
        if (what == 10) {
            return sumOf(w, 6) - sumOf(w, 7) - w.settled;
        }
        long sum = 0;
        for (int i = 0; i < w.inputs.size(); i++) {
            sum += lineOf(w, i, what);
        }
        return sum;
    }
}
