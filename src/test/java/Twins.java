import java.util.ArrayList;
import java.util.List;

/** Two offices made alike, of which one alone was asked for what it must refuse: nothing may tell them apart. */
final class Twins {
    interface Maker {
        PayLedger make();
    }

    interface Act {
        void on(PayLedger x);
    }

    private interface Question {
        long of(PayLedger x);
    }

    private record Asked(String text, Question question) {
    }

    // An object has 512 calls in all, and some of them make the office.
    private static final int QUESTIONS_A_RUN = 250;
    private static final long[] AMOUNTS = {0, 1, 15, 999999, 1000003, 4000007, 12345678, Offices.TRILLION};
    private static final long[] GROSSES = {0, 1, 99, 123456, Offices.BILLION};

    private final PayLedger shape;
    private final List<Asked> asked = new ArrayList<>();

    private Twins(PayLedger shape) {
        this.shape = shape;
    }

    /** The first thing by which they can be told apart; an empty text if there is none. */
    static String difference(Maker maker, Act refused) {
        List<Asked> now = new Twins(maker.make()).all();
        for (int from = 0; from < now.size(); from += QUESTIONS_A_RUN) {
            int to = Math.min(now.size(), from + QUESTIONS_A_RUN);
            String found = differenceIn(now.subList(from, to), maker, refused);
            if (!found.isEmpty()) {
                return found;
            }
        }
        return differenceIn(new Twins(maker.make()).later(), maker, refused);
    }

    private static String differenceIn(List<Asked> questions, Maker maker, Act refused) {
        PayLedger x = maker.make();
        PayLedger y = maker.make();
        Check.outcome(() -> refused.on(x));
        for (Asked a : questions) {
            String got = Check.outcome(() -> a.question().of(x));
            String want = Check.outcome(() -> a.question().of(y));
            if (!got.equals(want)) {
                return a.text() + " is " + got + " then, without it " + want;
            }
        }
        return "";
    }

    private void add(String text, Question question) {
        asked.add(new Asked(text, question));
    }

    /** All that can be asked, the first thing of each kind that is not there too. */
    private List<Asked> all() {
        for (int what = 0; what <= 7; what++) {
            int w = what;
            add("count(" + w + ")", x -> x.count(w));
        }
        for (int what = 0; what <= 11; what++) {
            int w = what;
            add("office(" + w + ")", x -> x.office(w));
        }
        for (int table = 0; table <= shape.count(0); table++) {
            askTaxes(table);
        }
        for (int worker = 0; worker <= shape.count(2); worker++) {
            askOf(worker);
            askYears(worker);
        }
        for (int worker = 0; worker < shape.count(2); worker++) {
            askPays(worker);
        }
        return asked;
    }

    private void askTaxes(int table) {
        for (long amount : AMOUNTS) {
            add("tax(" + table + ", " + amount + ")", x -> x.tax(table, amount));
        }
    }

    private void askOf(int worker) {
        for (int what = 0; what <= 11; what++) {
            int w = what;
            add("sum(" + worker + ", " + w + ")", x -> x.sum(worker, w));
        }
        add("duty(" + worker + ")", x -> x.duty(worker));
        for (long gross : GROSSES) {
            add("ask(" + worker + ", " + gross + ", false)", x -> x.ask(worker, gross, false));
            add("ask(" + worker + ", " + gross + ", true)", x -> x.ask(worker, gross, true));
        }
        for (int deduction = 0; deduction <= shape.count(1); deduction++) {
            int d = deduction;
            add("deducted(" + worker + ", " + d + ")", x -> x.deducted(worker, d));
        }
    }

    private void askYears(int worker) {
        for (int year = 0; year <= shape.count(3); year++) {
            for (int what = 0; what <= 10; what++) {
                int y = year;
                int w = what;
                add("statement(" + worker + ", " + y + ", " + w + ")", x -> x.statement(worker, y, w));
            }
        }
    }

    private void askPays(int worker) {
        for (int pay = 0; pay <= shape.sum(worker, 8); pay++) {
            int p = pay;
            for (int what = 0; what <= 8; what++) {
                int w = what;
                add("line(" + worker + ", " + p + ", " + w + ")", x -> x.line(worker, p, w));
            }
            for (int deduction = 0; deduction < shape.count(1); deduction++) {
                int d = deduction;
                add("part(" + worker + ", " + p + ", " + d + ")", x -> x.part(worker, p, d));
            }
        }
    }

    /** Calls that change the office, for what no question tells: if a table was had, its latest floor, enrolments. */
    private List<Asked> later() {
        for (int table = 0; table < shape.count(0); table++) {
            int t = table;
            add("a first stage(" + t + ", ..)", x -> x.stage(t, 0, 111111));
            add("a stage(" + t + ", ..)", x -> x.stage(t, Offices.TRILLION - 1, 222222));
            askTaxes(t);
        }
        add("table()", x -> x.table());
        add("deduction(..)", x -> x.deduction(false, 1, 12345, PayLedger.NONE, 0));
        add("employ(..)", x -> x.employ(0, 13, 1));
        for (int worker = 0; worker < shape.count(2); worker++) {
            payLater(worker);
        }
        add("close()", x -> x.close());
        for (int worker = 0; worker < shape.count(2); worker++) {
            lookLater(worker);
        }
        return asked;
    }

    private void payLater(int worker) {
        for (int deduction = 0; deduction < shape.count(1); deduction++) {
            int d = deduction;
            add("enrol(" + worker + ", " + d + ", true)", x -> x.enrol(worker, d, true) ? 1 : 0);
        }
        add("pay(" + worker + ", ..)", x -> x.pay(worker, 123456, false));
        add("a bonus of pay(" + worker + ", ..)", x -> x.pay(worker, 54321, true));
        add("all NET of " + worker, x -> x.sum(worker, 6));
        add("correct(" + worker + ", 0, ..)", x -> x.correct(worker, 0, 77777));
        add("settle(" + worker + ")", x -> x.settle(worker));
    }

    private void lookLater(int worker) {
        int year = shape.count(3);
        for (int what : new int[] {6, 9, 10}) {
            add("the later statement(" + worker + ", " + year + ", " + what + ")",
                    x -> x.statement(worker, year, what));
        }
        add("the next year's pay(" + worker + ", ..)", x -> x.pay(worker, 9876, false));
        add("the next year's NET of " + worker, x -> x.sum(worker, 6));
    }
}
