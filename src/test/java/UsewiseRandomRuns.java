import java.math.BigInteger;
import java.util.ArrayList;
import java.util.Arrays;
import java.util.List;
import java.util.Random;

/**
 * Long runs of calls beside a second model, which is written from the document alone, in big
 * numbers, and finds each worth anew. The seeds are fixed, so that each run is the same each time.
 */
public final class UsewiseRandomRuns {
    private static final int RUNS = 1500;
    // The document tells nothing of later calls, so none is made.
    private static final int CALLS = 512;
    private static final int LAST_LOOK = 100;
    private static final String[] READINGS = {
        "toCome", "debt", "debtByWorth", "right", "interest", "written", "paid", "gains"};
    private static final BigInteger MILLION = BigInteger.valueOf(1000000);

    private final Random random;
    private final int run;
    private final Usewise real = new Usewise();
    private final List<Model> models = new ArrayList<>();
    private final StringBuilder calls = new StringBuilder();
    private int made = 0;
    private int answered = 0;

    private UsewiseRandomRuns(int run) {
        this.run = run;
        random = new Random(run);
    }

    public static void main(String[] args) {
        long answered = 0;
        for (int run = 0; run < RUNS; run++) {
            answered += new UsewiseRandomRuns(run).go();
        }
        oneRunOfGreatSums();
        System.out.println(RUNS + " runs, " + answered + " calls answered without an exception");
        if (answered < RUNS * (long) CALLS / 2) {
            fail("too few calls were good ones to tell much");
        }
    }

    private int go() {
        while (made < CALLS - LAST_LOOK) {
            oneCall();
            if (random.nextInt(25) == 0) {
                compareLease(random.nextInt(6));
            }
        }
        compareAll();
        return answered;
    }

    private void oneCall() {
        // The first call adds a lease, and later ones do so seldom: then leases begin at all times.
        int kind = made == 0 ? 0 : random.nextInt(40);
        int lease = random.nextInt(12) == 0 ? random.nextInt(9) - 1 : random.nextInt(models.size() + 1);
        if (kind < 2) {
            compare("add", term(), number(1, 10000), number(0, 12), number(0, 1000), number(0, 20000),
                    number(1, 120), number(0, 10000));
        } else if (kind < 5) {
            compare("pass", random.nextInt(3) == 0 ? number(1, 24) : 1);
        } else if (kind < 9) {
            compare("review", lease, number(-50, 100));
        } else if (kind < 12) {
            compare("lengthen", lease, number(1, 36), number(0, 10000));
        } else if (kind < 15) {
            compare("shorten", lease, random.nextInt(3) == 0 ? number(1, 60) : number(1, 5));
        } else if (kind < 18) {
            compare("cut", lease, random.nextInt(3) == 0 ? number(1, 99) : number(1, 30));
        } else if (kind < 20) {
            compare("payment", lease, number(0, 60));
        } else if (kind < 22) {
            compare("rateFor", lease, valueNear(lease));
        } else if (kind < 25) {
            compare("saleGain", lease, number(0, 10000000), random.nextBoolean() ? valueNear(lease)
                    : number(1, 10000000));
        } else {
            compare(READINGS[kind % READINGS.length], lease);
        }
    }

    private int term() {
        return random.nextInt(4) == 0 ? number(1, 3) : number(1, 60);
    }

    private int valueNear(int lease) {
        if (lease < 0 || lease >= models.size() || random.nextInt(5) == 0) {
            return number(0, 10000000);
        }
        int debt = models.get(lease).worth(models.get(lease).rate).intValue();
        return (int) (debt * (long) (90 + random.nextInt(20)) / 100) + random.nextInt(3) - 1;
    }

    private int number(int least, int most) {
        switch (random.nextInt(60)) {
            case 0: return least;
            case 1: return most;
            case 2: return least - 1;
            case 3: return most + 1;
            default: return least + random.nextInt(most - least + 1);
        }
    }

    private void compareAll() {
        for (int lease = -1; lease <= 6; lease++) {
            for (String asked : READINGS) {
                compare(asked, lease);
            }
        }
        compareLease(0);
    }

    private void compareLease(int lease) {
        for (String asked : READINGS) {
            compare(asked, lease);
        }
        int months = lease < models.size() ? models.get(lease).left() : 0;
        for (int month = -1; month <= months; month++) {
            compare("payment", lease, month);
        }
    }

    /** Ends the whole test if the two do not agree. */
    private void compare(String name, int... given) {
        if (made == CALLS) {
            return;
        }
        made++;
        String due;
        try {
            due = "" + fromModel(name, given);
            answered++;
        } catch (RuntimeException thrown) {
            due = "throws." + thrown.getClass().getName();
        }
        String got;
        try {
            got = "" + fromReal(name, given);
        } catch (RuntimeException thrown) {
            got = "throws." + thrown.getClass().getName();
        }
        calls.append(name).append(Arrays.toString(given)).append(' ').append(got).append('\n');
        if (!due.equals(got)) {
            fail("run " + run + ":\n" + calls + "due is " + due);
        }
    }

    private static void fail(String text) {
        System.out.println(text);
        System.exit(1);
    }

    private int fromReal(String name, int[] a) {
        switch (name) {
            case "add": return real.add(a[0], a[1], a[2], a[3], a[4], a[5], a[6]);
            case "pass": return real.pass(a[0]);
            case "review": return real.review(a[0], a[1]);
            case "lengthen": return real.lengthen(a[0], a[1], a[2]);
            case "shorten": return real.shorten(a[0], a[1]);
            case "cut": return real.cut(a[0], a[1]);
            case "toCome": return real.toCome(a[0]);
            case "payment": return real.payment(a[0], a[1]);
            case "debt": return real.debt(a[0]);
            case "debtByWorth": return real.debtByWorth(a[0]);
            case "right": return real.right(a[0]);
            case "interest": return real.interest(a[0]);
            case "written": return real.written(a[0]);
            case "paid": return real.paid(a[0]);
            case "gains": return real.gains(a[0]);
            case "rateFor": return real.rateFor(a[0], a[1]);
            default: return real.saleGain(a[0], a[1], a[2]);
        }
    }

    // ---- the second model

    private int fromModel(String name, int[] a) {
        if (name.equals("add")) {
            return modelAdd(a);
        } else if (name.equals("pass")) {
            within(a[0], 1, 24);
            int ended = 0;
            for (Model model : models) {
                boolean was = model.left() == 0;
                for (int i = 0; i < a[0]; i++) {
                    model.passOne();
                }
                ended += !was && model.left() == 0 ? 1 : 0;
            }
            return ended;
        }
        if (a[0] < 0 || a[0] >= models.size()) {
            throw new IndexOutOfBoundsException();
        }
        return fromModelOf(models.get(a[0]), name, a);
    }

    private int modelAdd(int[] a) {
        int[] least = {1, 1, 0, 0, 0, 1, 0};
        int[] most = {60, 10000, 12, 1000, 20000, 120, 10000};
        for (int i = 0; i < a.length; i++) {
            within(a[i], least[i], most[i]);
        }
        if (models.size() == 6) {
            throw new IllegalStateException();
        }
        models.add(new Model(a));
        return models.size() - 1;
    }

    private static int fromModelOf(Model model, String name, int[] a) {
        switch (name) {
            case "review": return model.review(a[1]);
            case "lengthen": return model.lengthen(a[1], a[2]);
            case "shorten": return model.shorten(a[1]);
            case "cut": return model.cut(a[1]);
            case "toCome": return model.left();
            case "payment": return model.payment(a[1]);
            case "debt": return model.debt().intValue();
            case "debtByWorth": return model.debt().intValue();
            case "right": return model.right.intValue();
            case "interest": return model.interest.intValue();
            case "written": return model.written.intValue();
            case "paid": return model.paid.intValue();
            case "gains": return model.gains.intValue();
            case "rateFor": return model.rateFor(a[1]);
            default: return model.saleGain(a[1], a[2]);
        }
    }

    private static void within(int value, int least, int most) {
        if (value < least || value > most) {
            throw new IllegalArgumentException();
        }
    }

    private static BigInteger big(long value) {
        return BigInteger.valueOf(value);
    }

    private static final class Model {
        private final List<BigInteger> coming = new ArrayList<>();
        private final int rate;
        private final int life;
        private int gone = 0;
        private BigInteger right;
        private BigInteger interest = BigInteger.ZERO;
        private BigInteger written = BigInteger.ZERO;
        private BigInteger paid = BigInteger.ZERO;
        private BigInteger gains = BigInteger.ZERO;

        Model(int[] a) {
            for (int k = 0; k < a[0]; k++) {
                coming.add(k < a[2] ? BigInteger.ZERO : big(a[1] + (long) a[3] * (k / 12)));
            }
            rate = a[4];
            life = a[5];
            right = debt().add(big(a[6]));
        }

        int left() {
            return coming.size();
        }

        BigInteger debt() {
            return worth(rate);
        }

        BigInteger worth(int someRate) {
            BigInteger divisor = MILLION.add(big(someRate));
            BigInteger worth = BigInteger.ZERO;
            for (int k = coming.size() - 1; k >= 0; k--) {
                BigInteger[] parts = worth.add(coming.get(k)).multiply(MILLION).divideAndRemainder(divisor);
                worth = parts[1].signum() == 0 ? parts[0] : parts[0].add(BigInteger.ONE);
            }
            return worth;
        }

        void passOne() {
            if (coming.isEmpty()) {
                return;
            }
            int divisor = Math.min(coming.size(), life - gone);
            BigInteger off = divisor <= 1 ? right : right.divide(big(divisor));
            BigInteger before = debt();
            BigInteger payment = coming.remove(0);
            gone++;
            interest = interest.add(debt()).add(payment).subtract(before);
            paid = paid.add(payment);
            right = right.subtract(off);
            written = written.add(off);
        }

        private void mustGoOn() {
            if (coming.isEmpty()) {
                throw new IllegalStateException();
            }
        }

        int review(int percent) {
            within(percent, -50, 100);
            mustGoOn();
            List<BigInteger> then = times(100 + percent);
            for (BigInteger payment : then) {
                if (payment.compareTo(MILLION) > 0) {
                    throw new IllegalStateException();
                }
            }
            BigInteger before = debt();
            coming.clear();
            coming.addAll(then);
            return follow(before);
        }

        private List<BigInteger> times(int percent) {
            List<BigInteger> then = new ArrayList<>();
            for (BigInteger payment : coming) {
                then.add(payment.multiply(big(percent)).divide(big(100)));
            }
            return then;
        }

        private int follow(BigInteger before) {
            right = right.add(debt()).subtract(before);
            if (right.signum() < 0) {
                gains = gains.add(right.negate());
                right = BigInteger.ZERO;
            }
            return debt().intValueExact();
        }

        int lengthen(int months, int payment) {
            within(months, 1, 36);
            within(payment, 0, 10000);
            mustGoOn();
            if (gone + coming.size() + months > 120) {
                throw new IllegalStateException();
            }
            BigInteger before = debt();
            for (int i = 0; i < months; i++) {
                coming.add(big(payment));
            }
            return follow(before);
        }

        int shorten(int months) {
            within(months, 1, 60);
            if (coming.size() - months < 1) {
                throw new IllegalStateException();
            }
            BigInteger before = debt();
            int monthsBefore = coming.size();
            for (int i = 0; i < months; i++) {
                coming.remove(coming.size() - 1);
            }
            return giveUp(before, right.multiply(big(coming.size())).divide(big(monthsBefore)));
        }

        int cut(int percent) {
            within(percent, 1, 99);
            mustGoOn();
            BigInteger before = debt();
            List<BigInteger> then = times(100 - percent);
            coming.clear();
            coming.addAll(then);
            return giveUp(before, right.multiply(big(100 - percent)).divide(big(100)));
        }

        private int giveUp(BigInteger before, BigInteger rightThen) {
            BigInteger gain = before.subtract(debt()).subtract(right.subtract(rightThen));
            right = rightThen;
            gains = gains.add(gain);
            return gain.intValueExact();
        }

        int payment(int months) {
            if (months < 0 || months >= coming.size()) {
                throw new IndexOutOfBoundsException();
            }
            return coming.get(months).intValueExact();
        }

        /** Halves nothing: goes up from 0 in steps, and back to the first rate that will do. */
        int rateFor(int value) {
            within(value, 0, 10000000);
            int someRate = 0;
            while (someRate <= 20000 && worth(someRate).compareTo(big(value)) > 0) {
                someRate += 200;
            }
            someRate = Math.min(someRate, 20000);
            if (worth(someRate).compareTo(big(value)) > 0) {
                return -1;
            }
            while (someRate > 0 && worth(someRate - 1).compareTo(big(value)) <= 0) {
                someRate--;
            }
            return someRate;
        }

        int saleGain(int book, int price) {
            within(book, 0, 10000000);
            within(price, 1, 10000000);
            if (debt().compareTo(big(price)) >= 0) {
                return 0;
            }
            BigInteger less = big(price).subtract(debt());
            return big(price - book).multiply(less).divide(big(price)).intValueExact();
        }
    }

    // ---- sums beyond an int

    /** The document names no bound for the sums; written() and gains() can outgrow an int here. */
    private static void oneRunOfGreatSums() {
        UsewiseRandomRuns great = new UsewiseRandomRuns(-1);
        great.compare("add", 60, 10000, 0, 0, 0, 1, 10000);
        great.compare("lengthen", 0, 36, 10000);
        great.compare("lengthen", 0, 24, 10000);
        for (int i = 0; i < 8; i++) {
            great.compare("review", 0, i < 2 ? 25 : 100);
        }
        for (int month = 0; month < 100; month++) {
            great.compare("pass", 1);
            great.compare("cut", 0, 75);
            great.compare("review", 0, 100);
            great.compare("review", 0, 100);
        }
        great.compareAll();
        Model model = great.models.get(0);
        if (model.written.bitLength() < 32 || model.gains.bitLength() < 32) {
            fail("the sums are not great enough to tell: " + model.written + ", " + model.gains);
        }
    }
}
