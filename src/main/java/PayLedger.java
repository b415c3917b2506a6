import java.util.NoSuchElementException;

/** A pay office; the document's promises say what each call answers. */
public final class PayLedger {
    public static final int NONE = -1;

    private static final int MOST_TABLES = 6;
    private static final int MOST_STAGES = 12;
    private static final int MOST_DEDUCTIONS = 8;
    private static final int MOST_WORKERS = 10;
    private static final int MOST_PAYS = 60;
    private static final int MOST_YEARS = 6;

    private static final long MILLION = 1000000L;
    private static final long MOST_OF_A_PAY = 1000000000L;
    private static final long MOST_OF_A_YEAR = 1000000000000L;

    private static final int[] PERIODS = {1, 2, 4, 12, 13, 24, 26, 52};

    // The sorts of a deduction.
    private static final int FIXED_SUM = 0;
    private static final int RATE_OF_GROSS = 1;
    private static final int RATE_WITHIN_BASE = 2;

    // What change() changes.
    private static final int METHOD = 0;
    private static final int RELIEF = 1;
    private static final int CREDIT = 2;
    private static final int EXTRA = 3;
    private static final int TABLE = 4;
    private static final int PERIODS_A_YEAR = 5;

    // What line() tells; sums and statements tell the first eight likewise.
    private static final int GROSS = 0;
    private static final int ALL_EARLY = 1;
    private static final int INCOME = 2;
    private static final int BASIC = 3;
    private static final int MORE = 4;
    private static final int ALL_LATE = 5;
    private static final int NET = 6;
    private static final int PAID = 7;
    private static final int IS_BONUS = 8;

    // What sums tell behind those eight.
    private static final int HOW_MANY = 8;
    private static final int SETTLED = 9;
    private static final int OWED = 10;

    // What statements tell behind those eight and how many pays there were.
    private static final int STATED_DUTY = 9;
    private static final int TOO_MUCH_WITHHELD = 10;
    private static final int STATED_LINES = 11;

    private final Table[] tables = new Table[MOST_TABLES];
    private final Deduction[] deductions = new Deduction[MOST_DEDUCTIONS];
    private final Worker[] workers = new Worker[MOST_WORKERS];
    private final Ahead ahead = new Ahead();
    private int tableCount = 0;
    private int deductionCount = 0;
    private int workerCount = 0;
    private int bonusRate = 0;
    private int year = 0;
    private int worked = 0;

    public PayLedger() {
    }

    public int table() throws UnsupportedOperationException {
        int number = tableCount;
        if (number < 0 || number >= tables.length) {
            throw new UnsupportedOperationException("there are as many tables as can be");
        }
        tables[number] = new Table();
        tableCount = number + 1;
        return number;
    }

    public int stage(int table, long floor, int rate)
            throws IndexOutOfBoundsException, IllegalArgumentException, IllegalStateException,
            UnsupportedOperationException {
        Table t = tableNumbered(table);
        if (!isRate(rate) || !t.mayFollow(floor)) {
            throw new IllegalArgumentException("no such rate, or no such floor here");
        }
        if (t.taken) {
            throw new IllegalStateException("a worker has the table or had it");
        }
        if (t.isFull()) {
            throw new UnsupportedOperationException("the table has as many stages as can be");
        }
        t.append(floor, rate);
        return t.stages;
    }

    public long tax(int table, long amount) throws IndexOutOfBoundsException, IllegalArgumentException {
        Table t = tableNumbered(table);
        if (!isUpTo(amount, MOST_OF_A_YEAR)) {
            throw new IllegalArgumentException("no such amount");
        }
        return t.taxOf(amount);
    }

    public int deduction(boolean early, int sort, long size, long cap, long base)
            throws IllegalArgumentException, UnsupportedOperationException {
        boolean rightCap = cap == NONE || isUpTo(cap, MOST_OF_A_YEAR);
        if (!isSize(sort, size) || !rightCap || !isUpTo(base, MOST_OF_A_YEAR)) {
            throw new IllegalArgumentException("no such deduction can be");
        }
        int number = deductionCount;
        if (number < 0 || number >= deductions.length) {
            throw new UnsupportedOperationException("there are as many deductions as can be");
        }
        deductions[number] = new Deduction(early, sort, size, cap, base);
        deductionCount = number + 1;
        return number;
    }

    public int employ(int table, int periods, int method)
            throws IndexOutOfBoundsException, IllegalArgumentException, UnsupportedOperationException {
        Table t = tableNumbered(table);
        if (!isPeriods(periods) || !isUpTo(method, 1)) {
            throw new IllegalArgumentException("no such periods or method");
        }
        int number = workerCount;
        if (number < 0 || number >= workers.length) {
            throw new UnsupportedOperationException("there are as many workers as can be");
        }
        t.taken = true;
        workers[number] = new Worker(t, periods, method);
        workerCount = number + 1;
        return number;
    }

    public void change(int worker, int what, long v) throws IndexOutOfBoundsException, IllegalArgumentException {
        Worker w = workerNumbered(worker);
        if (what == TABLE) {
            Table t = tableNumbered(v);
            t.taken = true;
            w.terms.table = t;
            return;
        }
        if (!canBe(what, v)) {
            throw new IllegalArgumentException("nothing that can be changed so");
        }
        w.terms.put(what, v);
    }

    public boolean enrol(int worker, int deduction, boolean on) throws IndexOutOfBoundsException {
        Worker w = workerNumbered(worker);
        needDeduction(deduction);
        boolean other = w.terms.has(deduction) != on;
        if (other) {
            w.terms.turn(deduction);
        }
        return other;
    }

    public void bonus(int rate) throws IllegalArgumentException {
        if (!isRate(rate)) {
            throw new IllegalArgumentException("no such rate");
        }
        bonusRate = rate;
    }

    public int pay(int worker, long gross, boolean bonus)
            throws IndexOutOfBoundsException, IllegalArgumentException, UnsupportedOperationException {
        Worker w = workerNumbered(worker);
        Pay p = workNext(w, gross, bonus);
        int number = w.held;
        p.paid = p.net;
        w.held = number + 1;
        worked++;
        return number;
    }

    public long ask(int worker, long gross, boolean bonus)
            throws IndexOutOfBoundsException, IllegalArgumentException, UnsupportedOperationException {
        Worker w = workerNumbered(worker);
        return workNext(w, gross, bonus).net;
    }

    public int correct(int worker, int pay, long gross)
            throws IndexOutOfBoundsException, NoSuchElementException, IllegalArgumentException {
        Worker w = workerNumbered(worker);
        Pay first = payNumbered(w, pay);
        if (!isUpTo(gross, MOST_OF_A_PAY)) {
            throw new IllegalArgumentException("no such gross");
        }
        first.gross = gross;
        return workFrom(w, pay);
    }

    public long line(int worker, int pay, int what)
            throws IndexOutOfBoundsException, NoSuchElementException, IllegalArgumentException {
        Worker w = workerNumbered(worker);
        Pay p = payNumbered(w, pay);
        if (!isUpTo(what, IS_BONUS)) {
            throw new IllegalArgumentException("no such line");
        }
        return p.tell(what);
    }

    public long part(int worker, int pay, int deduction) throws IndexOutOfBoundsException, NoSuchElementException {
        Worker w = workerNumbered(worker);
        needDeduction(deduction);
        Pay p = payNumbered(w, pay);
        return elementOf(p.parts, deduction);
    }

    public long sum(int worker, int what) throws IndexOutOfBoundsException, IllegalArgumentException {
        Worker w = workerNumbered(worker);
        if (!isUpTo(what, OWED)) {
            throw new IllegalArgumentException("no such sum");
        }
        return w.total(what);
    }

    public long deducted(int worker, int deduction) throws IndexOutOfBoundsException {
        Worker w = workerNumbered(worker);
        needDeduction(deduction);
        return w.totalPart(deduction);
    }

    public long settle(int worker) throws IndexOutOfBoundsException {
        Worker w = workerNumbered(worker);
        long owed = w.total(OWED);
        w.settled += owed;
        return owed;
    }

    public long duty(int worker) throws IndexOutOfBoundsException {
        return workerNumbered(worker).dutyOfYear();
    }

    public int close() throws IllegalStateException, UnsupportedOperationException {
        if (isAnythingOwed()) {
            throw new IllegalStateException("something is owed to a worker or by one");
        }
        int ended = year;
        if (ended < 0 || ended >= MOST_YEARS) {
            throw new UnsupportedOperationException("as many years have ended as can");
        }
        for (Worker w : workers) {
            if (w != null) {
                w.state(ended);
                w.beginYear();
            }
        }
        year = ended + 1;
        return ended;
    }

    public long statement(int worker, int year, int what)
            throws IndexOutOfBoundsException, NoSuchElementException, IllegalArgumentException {
        Worker w = workerNumbered(worker);
        if (year < 0 || year >= this.year) {
            throw new NoSuchElementException("that year has not ended");
        }
        if (!isUpTo(what, STATED_LINES - 1)) {
            throw new IllegalArgumentException("no such line of a statement");
        }
        return w.stated(year, what);
    }

    public long office(int what) throws IllegalArgumentException {
        if (!isUpTo(what, OWED)) {
            throw new IllegalArgumentException("no such sum");
        }
        return officeTotal(what);
    }

    public int count(int what) {
        switch (what) {
            case 0:
                return tableCount;
            case 1:
                return deductionCount;
            case 2:
                return workerCount;
            case 3:
                return year;
            case 4:
                return (int) officeTotal(HOW_MANY);
            case 5:
                return worked;
            case 6:
                return bonusRate;
            default:
                return NONE;
        }
    }

    // A long, because change() is told the table's number as one.
    private Table tableNumbered(long number) {
        Table t = number < 0 || number >= tables.length ? null : tables[(int) number];
        if (t == null) {
            throw new IndexOutOfBoundsException("there is no such table");
        }
        return t;
    }

    private void needDeduction(int number) {
        if (number < 0 || number >= deductions.length || deductions[number] == null) {
            throw new IndexOutOfBoundsException("there is no such deduction");
        }
    }

    private Worker workerNumbered(int number) {
        Worker w = number < 0 || number >= workers.length ? null : workers[number];
        if (w == null) {
            throw new IndexOutOfBoundsException("there is no such worker");
        }
        return w;
    }

    private static Pay payNumbered(Worker w, int number) {
        Pay p = w.payAt(number);
        if (p == null) {
            throw new NoSuchElementException("there is no such pay");
        }
        return p;
    }

    /** Works a pay in the row behind the worker's last one; it has not come as long as that row is not held. */
    private Pay workNext(Worker w, long gross, boolean bonus) {
        if (!isUpTo(gross, MOST_OF_A_PAY)) {
            throw new IllegalArgumentException("no such gross");
        }
        Pay p = w.nextRow();
        if (p == null) {
            throw new UnsupportedOperationException("the worker has as many pays as can be");
        }
        p.gross = gross;
        p.bonus = bonus;
        p.bonusRate = bonusRate;
        p.terms.copy(w.terms);
        ahead.gather(w, w.held);
        work(p);
        return p;
    }

    /** Works a pay and all behind it anew: of how many the net is another one. */
    private int workFrom(Worker w, int number) {
        int others = 0;
        ahead.gather(w, number);
        for (int i = number; i < w.held && i < MOST_PAYS; i++) {
            Pay p = w.payAt(i);
            if (p != null) {
                long before = p.net;
                work(p);
                worked++;
                ahead.add(p);
                others += p.net == before ? 0 : 1;
            }
        }
        return others;
    }

    /** Needs what is ahead of the pay to be gathered. */
    private void work(Pay p) {
        p.income = takeAll(p, true, p.gross);
        p.early = p.gross - p.income;
        p.basic = Math.min(p.income, withheld(p));
        long left = p.income - p.basic;
        p.more = p.bonus ? 0 : Math.min(left, p.terms.extra);
        left -= p.more;
        p.net = takeAll(p, false, left);
        p.late = left - p.net;
    }

    /** Takes the early deductions, or the late ones, by their numbers: what is left. */
    private long takeAll(Pay p, boolean early, long left) {
        long rest = left;
        for (int i = 0; i < deductions.length && i < p.parts.length; i++) {
            Deduction d = deductions[i];
            if (d != null && d.early == early) {
                long part = p.terms.has(i) ? Math.min(rest, d.dueOf(p, ahead, i)) : 0;
                p.parts[i] = part;
                rest -= part;
            }
        }
        return rest;
    }

    private long withheld(Pay p) {
        if (p.bonus) {
            return round(p.income * p.bonusRate, MILLION);
        }
        long periods = p.terms.periods;
        if (p.terms.method == 0) {
            return round(p.terms.dutyOf(p.income * periods), periods);
        }
        long n = ahead.usual + 1L;
        long yearly = n < 1 ? 0 : (ahead.incomes + p.income) * periods / n;
        return Math.max(0, round(p.terms.dutyOf(yearly) * n, periods) - ahead.basics);
    }

    private boolean isAnythingOwed() {
        // One by one: what is owed to one must not hide what another owes.
        for (Worker w : workers) {
            if (w != null && w.total(OWED) != 0) {
                return true;
            }
        }
        return false;
    }

    private long officeTotal(int what) {
        long total = 0;
        for (Worker w : workers) {
            if (w != null) {
                total += w.total(what);
            }
        }
        return total;
    }

    /** The nearest whole number of a / b, of two the greater one. */
    private static long round(long a, long b) {
        return b < 1 ? 0 : (a + b / 2) / b;
    }

    private static long elementOf(long[] row, int i) {
        return row == null || i < 0 || i >= row.length ? 0 : row[i];
    }

    private static boolean isUpTo(long v, long most) {
        return v >= 0 && v <= most;
    }

    private static boolean isRate(long v) {
        return isUpTo(v, MILLION);
    }

    private static boolean isPeriods(long v) {
        for (int periods : PERIODS) {
            if (periods == v) {
                return true;
            }
        }
        return false;
    }

    private static boolean isSize(int sort, long size) {
        switch (sort) {
            case FIXED_SUM:
                return isUpTo(size, MOST_OF_A_PAY);
            case RATE_OF_GROSS:
            case RATE_WITHIN_BASE:
                return isRate(size);
            default:
                return false;
        }
    }

    private static boolean canBe(int what, long v) {
        switch (what) {
            case METHOD:
                return isUpTo(v, 1);
            case RELIEF:
            case CREDIT:
                return isUpTo(v, MOST_OF_A_YEAR);
            case EXTRA:
                return isUpTo(v, MOST_OF_A_PAY);
            case PERIODS_A_YEAR:
                return isPeriods(v);
            default:
                return false;
        }
    }

    private static final class Table {
        final long[] floors = new long[MOST_STAGES];
        final int[] rates = new int[MOST_STAGES];
        int stages = 0;
        // From the first worker on its stages are fixed: pays are worked anew by them.
        boolean taken = false;

        boolean isFull() {
            return stages >= MOST_STAGES;
        }

        boolean mayFollow(long floor) {
            int latest = stages - 1;
            if (latest < 0 || latest >= floors.length) {
                return floor == 0;
            }
            return floor > floors[latest] && floor <= MOST_OF_A_YEAR;
        }

        void append(long floor, int rate) {
            if (stages < 0 || stages >= floors.length || stages >= rates.length) {
                return;
            }
            floors[stages] = floor;
            rates[stages] = rate;
            stages++;
        }

        /** Goes from the highest stage down, so that each finds only what is not above the next one's floor. */
        long taxOf(long amount) {
            long millionths = 0;
            long rest = amount;
            for (int i = stages - 1; i >= 0; i--) {
                if (i < floors.length && i < rates.length && rest > floors[i]) {
                    millionths += (rest - floors[i]) * rates[i];
                    rest = floors[i];
                }
            }
            return round(millionths, MILLION);
        }
    }

    private static final class Deduction {
        final boolean early;
        final int sort;
        final long size;
        final long cap;
        final long base;

        Deduction(boolean early, int sort, long size, long cap, long base) {
            this.early = early;
            this.sort = sort;
            this.size = size;
            this.cap = cap;
            this.base = base;
        }

        /** What a pay should have of this deduction, if enough is left of it. */
        long dueOf(Pay p, Ahead ahead, int number) {
            long whole = withoutCap(p, ahead.gross);
            return cap == NONE ? whole : Math.min(whole, cap - elementOf(ahead.parts, number));
        }

        long withoutCap(Pay p, long grossAhead) {
            switch (sort) {
                case FIXED_SUM:
                    return p.bonus ? 0 : size;
                case RATE_OF_GROSS:
                    return round(p.gross * size, MILLION);
                default:
                    long within = Math.min(base, grossAhead + p.gross) - Math.min(base, grossAhead);
                    return round(within * size, MILLION);
            }
        }
    }

    /** What a worker has, and what stays with a pay that was worked with it. */
    private static final class Terms {
        Table table = null;
        int periods = 1;
        int method = 0;
        long relief = 0;
        long credit = 0;
        long extra = 0;
        // A bit for each deduction, by its number.
        int enrolled = 0;

        void copy(Terms other) {
            table = other.table;
            periods = other.periods;
            method = other.method;
            relief = other.relief;
            credit = other.credit;
            extra = other.extra;
            enrolled = other.enrolled;
        }

        void put(int what, long v) {
            switch (what) {
                case METHOD:
                    method = (int) v;
                    break;
                case RELIEF:
                    relief = v;
                    break;
                case CREDIT:
                    credit = v;
                    break;
                case EXTRA:
                    extra = v;
                    break;
                case PERIODS_A_YEAR:
                    periods = (int) v;
                    break;
                default:
                    break;
            }
        }

        boolean has(int deduction) {
            return (enrolled >> deduction & 1) != 0;
        }

        void turn(int deduction) {
            enrolled ^= 1 << deduction;
        }

        long dutyOf(long yearly) {
            long taxed = Math.max(0, yearly - relief);
            long whole = table == null ? 0 : table.taxOf(taxed);
            return Math.max(0, whole - credit);
        }
    }

    private static final class Pay {
        final Terms terms = new Terms();
        final long[] parts = new long[MOST_DEDUCTIONS];
        boolean bonus = false;
        int bonusRate = 0;
        long gross = 0;
        long early = 0;
        long income = 0;
        long basic = 0;
        long more = 0;
        long late = 0;
        long net = 0;
        long paid = 0;

        long tell(int what) {
            switch (what) {
                case GROSS:
                    return gross;
                case ALL_EARLY:
                    return early;
                case INCOME:
                    return income;
                case BASIC:
                    return basic;
                case MORE:
                    return more;
                case ALL_LATE:
                    return late;
                case NET:
                    return net;
                case PAID:
                    return paid;
                default:
                    return bonus ? 1 : 0;
            }
        }
    }

    /** What the pays ahead of one come to, so that working it needs no look back at each of them. */
    private static final class Ahead {
        final long[] parts = new long[MOST_DEDUCTIONS];
        long gross = 0;
        int usual = 0;
        long incomes = 0;
        long basics = 0;

        void gather(Worker w, int number) {
            clear();
            for (int i = 0; i < number && i < MOST_PAYS; i++) {
                Pay p = w.payAt(i);
                if (p != null) {
                    add(p);
                }
            }
        }

        void clear() {
            for (int i = 0; i < parts.length; i++) {
                parts[i] = 0;
            }
            gross = 0;
            usual = 0;
            incomes = 0;
            basics = 0;
        }

        void add(Pay p) {
            for (int i = 0; i < parts.length; i++) {
                parts[i] += elementOf(p.parts, i);
            }
            gross += p.gross;
            if (!p.bonus) {
                usual++;
                incomes += p.income;
                basics += p.basic;
            }
        }
    }

    private static final class Worker {
        final Terms terms = new Terms();
        // Rows are made when first needed and used again in later years.
        final Pay[] pays = new Pay[MOST_PAYS];
        final long[][] statements = new long[MOST_YEARS][STATED_LINES];
        int held = 0;
        long settled = 0;

        Worker(Table table, int periods, int method) {
            terms.table = table;
            terms.periods = periods;
            terms.method = method;
        }

        Pay payAt(int number) {
            return number < 0 || number >= held || number >= pays.length ? null : pays[number];
        }

        /** The row behind the last pay; null if there can be no more. */
        Pay nextRow() {
            if (held < 0 || held >= pays.length) {
                return null;
            }
            if (pays[held] == null) {
                pays[held] = new Pay();
            }
            return pays[held];
        }

        long total(int what) {
            switch (what) {
                case HOW_MANY:
                    return held;
                case SETTLED:
                    return settled;
                case OWED:
                    return totalLine(NET) - totalLine(PAID) - settled;
                default:
                    return totalLine(what);
            }
        }

        long totalLine(int what) {
            long total = 0;
            for (int i = 0; i < held && i < MOST_PAYS; i++) {
                Pay p = payAt(i);
                if (p != null) {
                    total += p.tell(what);
                }
            }
            return total;
        }

        long totalPart(int deduction) {
            long total = 0;
            for (int i = 0; i < held && i < MOST_PAYS; i++) {
                Pay p = payAt(i);
                if (p != null) {
                    total += elementOf(p.parts, deduction);
                }
            }
            return total;
        }

        long dutyOfYear() {
            return terms.dutyOf(totalLine(INCOME));
        }

        void state(int ended) {
            if (ended < 0 || ended >= statements.length) {
                return;
            }
            long[] lines = statements[ended];
            if (lines == null || lines.length < STATED_LINES) {
                return;
            }
            for (int what = GROSS; what <= HOW_MANY; what++) {
                lines[what] = total(what);
            }
            lines[STATED_DUTY] = dutyOfYear();
            lines[TOO_MUCH_WITHHELD] = lines[BASIC] + lines[MORE] - lines[STATED_DUTY];
        }

        void beginYear() {
            held = 0;
            settled = 0;
        }

        long stated(int ended, int what) {
            if (ended < 0 || ended >= statements.length) {
                return 0;
            }
            return elementOf(statements[ended], what);
        }
    }
}
