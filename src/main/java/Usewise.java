/** An accountant of leased things; README.md says how to use it. */
public final class Usewise {
    public static final int NONE = -1;

    private static final int MOST_LEASES = 6;
    private static final int MOST_MONTHS = 120;
    private static final int MOST_RATE = 20000;
    private static final int MOST_NEW_PAYMENT = 10000;
    private static final int MOST_PAYMENT = 1000000;
    private static final int MOST_VALUE = 10000000;
    private static final int MILLION = 1000000;

    private final Lease[] leases;
    private int count;

    public Usewise() {
        leases = new Lease[MOST_LEASES];
        count = 0;
    }

    // ---- leases

    public int add(int term, int payment, int free, int step, int rate, int life, int costs)
            throws IllegalArgumentException, IllegalStateException {
        mustBeWithin(term, 1, 60);
        mustBeWithin(payment, 1, MOST_NEW_PAYMENT);
        mustBeWithin(free, 0, 12);
        mustBeWithin(step, 0, 1000);
        mustBeWithin(rate, 0, MOST_RATE);
        mustBeWithin(life, 1, 120);
        mustBeWithin(costs, 0, 10000);
        int number = count;
        if (number < 0 || number >= leases.length) {
            throw new IllegalStateException("there are as many leases as there can be");
        }
        leases[number] = new Lease(term, payment, free, step, rate, life, costs);
        count = number + 1;
        return number;
    }

    public int pass(int months) throws IllegalArgumentException {
        mustBeWithin(months, 1, 24);
        int ended = 0;
        for (Lease each : leases) {
            if (each != null && each.endsWithin(months)) {
                ended++;
            }
        }
        return ended;
    }

    // ---- changes

    public int review(int lease, int percent)
            throws IndexOutOfBoundsException, IllegalArgumentException, IllegalStateException {
        Lease found = leaseOf(lease);
        mustBeWithin(percent, -50, 100);
        mustGoOn(found);
        if (found.wouldPassTheMost(100 + percent)) {
            throw new IllegalStateException("a payment would be too high");
        }
        found.reviewPayments(100 + percent);
        return found.debtNow();
    }

    public int lengthen(int lease, int months, int payment)
            throws IndexOutOfBoundsException, IllegalArgumentException, IllegalStateException {
        Lease found = leaseOf(lease);
        mustBeWithin(months, 1, 36);
        mustBeWithin(payment, 0, MOST_NEW_PAYMENT);
        mustGoOn(found);
        if (!found.hasRoomFor(months)) {
            throw new IllegalStateException("there would be too many months in all");
        }
        found.putBehind(months, payment);
        return found.debtNow();
    }

    public int shorten(int lease, int months)
            throws IndexOutOfBoundsException, IllegalArgumentException, IllegalStateException {
        Lease found = leaseOf(lease);
        mustBeWithin(months, 1, 60);
        if (found.monthsLeft() <= months) {
            throw new IllegalStateException("no month would be left to come");
        }
        return found.takeOffTheEnd(months);
    }

    public int cut(int lease, int percent)
            throws IndexOutOfBoundsException, IllegalArgumentException, IllegalStateException {
        Lease found = leaseOf(lease);
        mustBeWithin(percent, 1, 99);
        mustGoOn(found);
        return found.keepPart(100 - percent);
    }

    // ---- what there is

    public int toCome(int lease) throws IndexOutOfBoundsException {
        return leaseOf(lease).monthsLeft();
    }

    public int payment(int lease, int months) throws IndexOutOfBoundsException {
        Lease found = leaseOf(lease);
        if (months < 0 || months >= found.monthsLeft()) {
            throw new IndexOutOfBoundsException("not so many months are to come");
        }
        return found.paymentIn(months);
    }

    public int debt(int lease) throws IndexOutOfBoundsException {
        return leaseOf(lease).debtNow();
    }

    public int debtByWorth(int lease) throws IndexOutOfBoundsException {
        Lease found = leaseOf(lease);
        return (int) found.worthAt(found.rate);
    }

    public int right(int lease) throws IndexOutOfBoundsException {
        return (int) leaseOf(lease).right;
    }

    public int interest(int lease) throws IndexOutOfBoundsException {
        return (int) leaseOf(lease).interest;
    }

    public int written(int lease) throws IndexOutOfBoundsException {
        return (int) leaseOf(lease).written;
    }

    public int paid(int lease) throws IndexOutOfBoundsException {
        return (int) leaseOf(lease).paid;
    }

    public int gains(int lease) throws IndexOutOfBoundsException {
        return (int) leaseOf(lease).gains;
    }

    // ---- rates and sales

    public int rateFor(int lease, int value)
            throws IndexOutOfBoundsException, IllegalArgumentException {
        Lease found = leaseOf(lease);
        mustBeWithin(value, 0, MOST_VALUE);
        if (found.worthAt(MOST_RATE) > value) {
            return NONE;
        }
        int low = 0;
        int high = MOST_RATE;
        // Each turn takes at least one rate away, so the counter only shows that there is an end.
        for (int turn = 0; turn < MOST_RATE && low < high; turn++) {
            int middle = (low + high) / 2;
            if (found.worthAt(middle) <= value) {
                high = middle;
            } else {
                low = middle + 1;
            }
        }
        return low;
    }

    public int saleGain(int lease, int book, int price)
            throws IndexOutOfBoundsException, IllegalArgumentException {
        Lease found = leaseOf(lease);
        mustBeWithin(book, 0, MOST_VALUE);
        mustBeWithin(price, 1, MOST_VALUE);
        long debt = found.debtNow();
        if (price < 1 || debt >= price) {
            return 0;
        }
        return (int) ((long) (price - book) * (price - debt) / price);
    }

    // ---- what a call must hold to

    private static void mustBeWithin(int value, int least, int most) {
        if (value < least || value > most) {
            throw new IllegalArgumentException("out of range");
        }
    }

    private static void mustGoOn(Lease found) {
        if (found.monthsLeft() == 0) {
            throw new IllegalStateException("the lease is over");
        }
    }

    private Lease leaseOf(int number) {
        if (number < 0 || number >= leases.length) {
            throw new IndexOutOfBoundsException("no such lease");
        }
        Lease found = leases[number];
        if (found == null) {
            throw new IndexOutOfBoundsException("no such lease");
        }
        return found;
    }

    /**
     * One lease. At all times 0 <= past <= term <= MOST_MONTHS: the constructor and hasRoomFor()
     * see to the upper end, and monthsLeft() is asked before months pass or are taken off. So each
     * month of the term has its place in both rows; at() and put() look all the same, since
     * LANGUAGE.md wants each index looked at where it is used.
     */
    private static final class Lease {
        private final int rate;
        private final int life;
        private final int[] payments;
        // The debt at the beginning of each month that is to come, and 0 behind the last: laid
        // once for each change, so that months can pass without finding all worths anew.
        private final int[] debts;
        private int term;
        private int past;
        private long right;
        private long interest;
        private long paid;
        // These two alone can outgrow an int, over many changes; their low 32 bits are answered.
        private long written;
        private long gains;

        Lease(int term, int payment, int free, int step, int rate, int life, int costs) {
            this.rate = rate;
            this.life = life;
            this.term = Math.max(0, Math.min(term, MOST_MONTHS));
            payments = new int[MOST_MONTHS];
            debts = new int[MOST_MONTHS + 1];
            for (int month = free; month < this.term; month++) {
                put(payments, month, payment + step * (month / 12));
            }
            layDebts();
            right = (long) debtNow() + costs;
        }

        private static int at(int[] row, int month) {
            return month >= 0 && month < row.length ? row[month] : 0;
        }

        private static void put(int[] row, int month, int value) {
            if (month >= 0 && month < row.length) {
                row[month] = value;
            }
        }

        int monthsLeft() {
            return term - past;
        }

        int debtNow() {
            return at(debts, past);
        }

        int paymentIn(int months) {
            return at(payments, past + months);
        }

        boolean hasRoomFor(int months) {
            return term + months <= MOST_MONTHS;
        }

        long worthAt(int someRate) {
            long worth = 0;
            for (int month = term - 1; month >= past; month--) {
                worth = worthBefore(worth + at(payments, month), someRate);
            }
            return worth;
        }

        private static long worthBefore(long worthAtEnd, int someRate) {
            long divisor = (long) MILLION + someRate;
            return divisor < 1 ? 0 : (worthAtEnd * MILLION + divisor - 1) / divisor;
        }

        private void layDebts() {
            put(debts, term, 0);
            for (int month = term - 1; month >= past; month--) {
                long worthAtEnd = (long) at(debts, month + 1) + at(payments, month);
                put(debts, month, (int) worthBefore(worthAtEnd, rate));
            }
        }

        boolean endsWithin(int months) {
            int passing = Math.min(months, monthsLeft());
            for (int i = 0; i < passing; i++) {
                passOneMonth();
            }
            return passing > 0 && monthsLeft() == 0;
        }

        private void passOneMonth() {
            int payment = at(payments, past);
            interest += at(debts, past + 1) + payment - at(debts, past);
            paid += payment;
            // Behind its life this is below 1: then, as in its last month, nothing may be left over.
            int monthsOfUse = Math.min(term, life) - past;
            long off = monthsOfUse > 1 ? right / monthsOfUse : right;
            written += off;
            right -= off;
            past++;
        }

        boolean wouldPassTheMost(int percent) {
            for (int month = past; month < term; month++) {
                if (percentOf(at(payments, month), percent) > MOST_PAYMENT) {
                    return true;
                }
            }
            return false;
        }

        void reviewPayments(int percent) {
            scalePayments(percent);
            followDebt();
        }

        void putBehind(int months, int payment) {
            int end = Math.min(term + months, MOST_MONTHS);
            for (int month = term; month < end; month++) {
                put(payments, month, payment);
            }
            term = end;
            followDebt();
        }

        int takeOffTheEnd(int months) {
            int before = monthsLeft();
            term -= months;
            return giveUp(before < 1 ? 0 : right * monthsLeft() / before);
        }

        int keepPart(int percent) {
            scalePayments(percent);
            return giveUp(percentOf(right, percent));
        }

        private void scalePayments(int percent) {
            for (int month = past; month < term; month++) {
                put(payments, month, (int) percentOf(at(payments, month), percent));
            }
        }

        private static long percentOf(long amount, int percent) {
            return amount * percent / 100;
        }

        private void followDebt() {
            long before = debtNow();
            layDebts();
            right += debtNow() - before;
            if (right < 0) {
                gains -= right;
                right = 0;
            }
        }

        private int giveUp(long rightThen) {
            // takeOffTheEnd() moves the term, never the next month, so the old debt still stands.
            long before = debtNow();
            layDebts();
            long gain = (before - debtNow()) - (right - rightThen);
            right = rightThen;
            gains += gain;
            return (int) gain;
        }
    }
}
