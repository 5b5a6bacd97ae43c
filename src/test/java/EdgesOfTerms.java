import java.lang.reflect.Method;
import java.util.Arrays;
import java.util.TreeSet;

/** The sentences of the face and of the terms that name a boundary case, each with its test. */
public final class EdgesOfTerms extends Checks {
    private static final String[] FACE = {
        "int add(int,int,int,int,int,int,int) throws IllegalArgumentException,IllegalStateException",
        "int pass(int) throws IllegalArgumentException",
        "int review(int,int) throws IndexOutOfBoundsException,IllegalArgumentException,IllegalStateException",
        "int lengthen(int,int,int) throws IndexOutOfBoundsException,IllegalArgumentException,IllegalStateException",
        "int shorten(int,int) throws IndexOutOfBoundsException,IllegalArgumentException,IllegalStateException",
        "int cut(int,int) throws IndexOutOfBoundsException,IllegalArgumentException,IllegalStateException",
        "int toCome(int) throws IndexOutOfBoundsException",
        "int payment(int,int) throws IndexOutOfBoundsException",
        "int debt(int) throws IndexOutOfBoundsException",
        "int debtByWorth(int) throws IndexOutOfBoundsException",
        "int right(int) throws IndexOutOfBoundsException",
        "int interest(int) throws IndexOutOfBoundsException",
        "int written(int) throws IndexOutOfBoundsException",
        "int paid(int) throws IndexOutOfBoundsException",
        "int gains(int) throws IndexOutOfBoundsException",
        "int rateFor(int,int) throws IndexOutOfBoundsException,IllegalArgumentException",
        "int saleGain(int,int,int) throws IndexOutOfBoundsException,IllegalArgumentException",
    };

    public static void main(String[] args) {
        edge("The public face", EdgesOfTerms::theFace);
        edge("NONE = -1", () -> same("NONE", Usewise.NONE, -1));
        edge("An object is used for at most 512 calls", EdgesOfTerms::the512thCall);
        edge("Leases are numbered from 0, at most 6", EdgesOfTerms::atMostSix);
        edge("if there is no such lease", EdgesOfTerms::noSuchLease);
        edge("a row of payments, one for each month, at the end of the month", EdgesOfTerms::rowOfPayments);
        edge("A lease is over when all its months are past", EdgesOfTerms::overWhenAllArePast);
        behindTheLastMonth();
        roundedUp();
        edge("The debt is 0 if it is over", EdgesOfTerms::noDebtWhenOver);
        edge("A lease begins with its debt as its right, and the costs", EdgesOfTerms::beginsWithItsDebt);
        interestOfAMonth();
        writtenOff();
        thePaymentsAreChanged();
        aPartIsGivenUp();
        severalExceptions();
        edge("a call that throws changes nothing", EdgesOfTerms::changesNothing);
        end();
    }

    // ---- the face, and how many leases there are

    private static void theFace() {
        TreeSet<String> got = new TreeSet<>();
        for (Method method : Usewise.class.getMethods()) {
            if (method.getDeclaringClass() == Usewise.class) {
                got.add(method.toString().replace("public ", "").replace("Usewise.", "").replace("java.lang.", ""));
            }
        }
        text("the methods and what they may throw", String.join("\n", got),
                String.join("\n", new TreeSet<>(Arrays.asList(FACE))));
    }

    private static void the512thCall() {
        Usewise x = one(60, 10000);
        for (int i = 0; i < 255; i++) {
            x.review(0, 100);
            x.review(0, -50);
        }
        same("the 512th call, behind one and 510", x.debt(0), 600000);
    }

    private static void atMostSix() {
        Usewise x = new Usewise();
        same("the first", add(x, 1, 1), 0);
        for (int number = 1; number < 6; number++) {
            same("the next", add(x, 1, 1), number);
        }
        same("the last can be read", x.debt(5), 1);
        fails("one more", STATE, () -> add(x, 1, 1));
        fails("it is not there", INDEX, () -> x.debt(6));
    }

    private static void noSuchLease() {
        for (int count = 0; count <= 6; count++) {
            for (int lease : new int[] {LOW, -1, count, count + 1, 6, 7, HIGH}) {
                noSuchLease(count, lease);
            }
            for (int lease = 0; lease < count; lease++) {
                suchALease(count, lease);
            }
        }
    }

    private static Usewise many(int count) {
        Usewise x = new Usewise();
        for (int i = 0; i < count; i++) {
            add(x, 3, 10);
        }
        return x;
    }

    private static void noSuchLease(int count, int lease) {
        Usewise x = many(count);
        String of = " " + lease + " of " + count;
        fails("review" + of, INDEX, () -> x.review(lease, 1));
        fails("lengthen" + of, INDEX, () -> x.lengthen(lease, 1, 1));
        fails("shorten" + of, INDEX, () -> x.shorten(lease, 1));
        fails("cut" + of, INDEX, () -> x.cut(lease, 1));
        fails("toCome" + of, INDEX, () -> x.toCome(lease));
        fails("payment" + of, INDEX, () -> x.payment(lease, 0));
        fails("debt" + of, INDEX, () -> x.debt(lease));
        fails("debtByWorth" + of, INDEX, () -> x.debtByWorth(lease));
        fails("right" + of, INDEX, () -> x.right(lease));
        fails("interest" + of, INDEX, () -> x.interest(lease));
        fails("written" + of, INDEX, () -> x.written(lease));
        fails("paid" + of, INDEX, () -> x.paid(lease));
        fails("gains" + of, INDEX, () -> x.gains(lease));
        fails("rateFor" + of, INDEX, () -> x.rateFor(lease, 1));
        fails("saleGain" + of, INDEX, () -> x.saleGain(lease, 1, 1));
        text("nothing is changed", stateOf(x), stateOf(many(count)));
    }

    private static void suchALease(int count, int lease) {
        Usewise x = many(count);
        String of = " " + lease + " of " + count;
        same("toCome" + of, x.toCome(lease), 3);
        same("payment" + of, x.payment(lease, 0), 10);
        same("debt" + of, x.debt(lease), 30);
        same("debtByWorth" + of, x.debtByWorth(lease), 30);
        same("right" + of, x.right(lease), 30);
        same("interest" + of, x.interest(lease), 0);
        same("written" + of, x.written(lease), 0);
        same("paid" + of, x.paid(lease), 0);
        same("gains" + of, x.gains(lease), 0);
        same("rateFor" + of, x.rateFor(lease, 30), 0);
        same("saleGain" + of, x.saleGain(lease, 0, 60), 30);
        same("review" + of, x.review(lease, 10), 33);
        same("lengthen" + of, x.lengthen(lease, 1, 2), 35);
        same("shorten" + of, x.shorten(lease, 1), 2 - (35 - 26));
        same("cut" + of, x.cut(lease, 50), (33 - 15) - (26 - 13));
    }

    // ---- months

    private static void rowOfPayments() {
        for (int term : new int[] {1, 2, 12, 13, 59, 60}) {
            Usewise x = one(term, 7);
            same("months", x.toCome(0), term);
            same("the first", x.payment(0, 0), 7);
            same("the last", x.payment(0, term - 1), 7);
            fails("behind the last", INDEX, () -> x.payment(0, term));
            x.pass(1);
            same("the month's end is the payment's", x.paid(0), 7);
        }
    }

    private static void overWhenAllArePast() {
        Usewise x = one(24, 7);
        x.pass(23);
        same("one month is to come", x.toCome(0), 1);
        same("not over", x.review(0, 0), 7);
        same("the last month", x.pass(1), 1);
        fails("over", STATE, () -> x.review(0, 0));
        Usewise y = one(1, 7);
        same("one month, not over", y.review(0, 0), 7);
        same("its only month", y.pass(1), 1);
        fails("over", STATE, () -> y.review(0, 0));
        Usewise z = new Usewise();
        z.add(2, 1, 12, 0, 0, 1, 0);
        z.pass(1);
        same("without any debt it is not over", z.review(0, 0), 0);
    }

    // ---- the worth

    private static void behindTheLastMonth() {
        edge("behind the last month it is 0", () -> {
            same("the last payment alone", worthOfOne(1020, 20000), 1000);
            Usewise x = new Usewise();
            x.add(3, 1020, 0, 0, 20000, 3, 0);
            x.pass(2);
            same("the last payment alone", x.debt(0), 1000);
        });
    }

    private static int worthOfOne(int payment, int rate) {
        Usewise x = new Usewise();
        x.add(1, payment, 0, 0, rate, 1, 0);
        same("by worth", x.debtByWorth(0), x.debt(0));
        return x.debt(0);
    }

    private static void roundedUp() {
        edge("rounded up: nothing is, where it is exact", () -> {
            same("51 of 50", worthOfOne(51, 20000), 50);
            same("101 of 100", worthOfOne(101, 10000), 100);
        });
        edge("rounded up: 1 more than exact", () -> {
            // 9010 * 1000000 is 9009 * 1000111 and 1
            same("9010 at 111", worthOfOne(9010, 111), 9010);
            // 8548 * 1000000 is 8547 * 1000117 and 1
            same("8548 at 117", worthOfOne(8548, 117), 8548);
        });
        edge("rounded up: 1 less than exact", () -> {
            // 9902 * 1000000 is 9901 * 1000101 less 1
            same("9902 at 101", worthOfOne(9902, 101), 9901);
            // 1 * 1000000 is 1 * 1000001 less 1
            same("1 at 1", worthOfOne(1, 1), 1);
        });
        edge("rounded up at the beginning of each month", () -> {
            Usewise x = new Usewise();
            // 1 -> 1 (0.98); 2 -> 2 (1.96); 3 -> 3 (2.94): never less; all at once would be 2.88
            x.add(50, 1, 0, 0, 20000, 50, 0);
            same("fifty payments of 1", x.debt(0), 50);
        });
        edge("1000000 and the rate, together: a rate of 0", () -> {
            same("1", worthOfOne(1, 0), 1);
            same("10000", worthOfOne(10000, 0), 10000);
            same("all payments", one(60, 10000).debt(0), 600000);
        });
        edge("1000000 and the rate, together: a rate of 20000", () -> {
            // 9803.92; 19803.92 -> 19415.6
            same("10000", worthOfOne(10000, 20000), 9804);
            Usewise x = new Usewise();
            x.add(2, 10000, 0, 0, 20000, 2, 0);
            same("two", x.debt(0), 19416);
        });
        edge("the worth of months without a payment", () -> {
            Usewise x = new Usewise();
            x.add(2, 102, 1, 0, 20000, 2, 0);
            // 102 -> 100 -> 99 (98.04)
            same("a free month counts as a month", x.debt(0), 99);
            x.lengthen(0, 36, 0);
            same("months of 0 at the end are worth nothing", x.debt(0), 99);
        });
    }

    private static void noDebtWhenOver() {
        Usewise x = new Usewise();
        x.add(2, 100, 0, 0, 5000, 2, 3);
        x.pass(1);
        same("one month before", x.debt(0), 100);
        x.pass(1);
        same("over", x.debt(0), 0);
        same("over, by worth", x.debtByWorth(0), 0);
        Usewise y = one(60, 10000);
        y.lengthen(0, 36, 10000);
        y.lengthen(0, 24, 10000);
        y.pass(24);
        passes(y, 3);
        same("the 119th month and the last are not past", y.debt(0), 24 * 10000);
        y.pass(23);
        same("the last month", y.debt(0), 10000);
        y.pass(1);
        same("over behind month 120", y.debt(0), 0);
        same("over behind month 120, by worth", y.debtByWorth(0), 0);
    }

    private static void beginsWithItsDebt() {
        for (int costs : new int[] {0, 1, 10000}) {
            Usewise x = new Usewise();
            x.add(2, 10000, 0, 0, 20000, 1, costs);
            same("costs of " + costs, x.right(0), 19416 + costs);
            x.add(1, 1, 12, 0, 20000, 1, costs);
            same("no debt, and costs of " + costs, x.right(1), costs);
        }
    }

    // ---- a month passes

    private static void interestOfAMonth() {
        edge("its interest: none at a rate of 0", () -> {
            Usewise x = one(3, 1000);
            x.pass(3);
            same("interest", x.interest(0), 0);
        });
        edge("its interest: of the first month", () -> {
            Usewise x = new Usewise();
            x.add(2, 10000, 0, 0, 20000, 2, 0);
            x.pass(1);
            same("interest", x.interest(0), 9804 + 10000 - 19416);
        });
        edge("its interest: of the last month, with no debt at its end", () -> {
            Usewise x = new Usewise();
            x.add(1, 10000, 0, 0, 20000, 2, 0);
            x.pass(1);
            same("interest", x.interest(0), 10000 - 9804);
        });
        edge("its interest: of a month without a payment", () -> {
            Usewise x = new Usewise();
            x.add(2, 10000, 1, 0, 20000, 2, 0);
            // 10000 -> 9804 -> 9612 (9611.8)
            x.pass(1);
            same("interest", x.interest(0), 9804 - 9612);
        });
        edge("its interest: of the debt that was laid again", () -> {
            Usewise x = new Usewise();
            x.add(2, 10000, 0, 0, 20000, 2, 0);
            // 20000 -> 19608 (19607.8); 39608 -> 38832 (38831.4)
            same("laid again", x.review(0, 100), 38832);
            same("a change is no interest", x.interest(0), 0);
            x.pass(1);
            same("interest", x.interest(0), 19608 + 20000 - 38832);
        });
    }

    /** What is written off in one month, of a lease of so many months and such a life. */
    private static int firstOff(int term, int life, int right) {
        Usewise x = new Usewise();
        // All months are free for up to 12 months, so that the right is what the costs are.
        x.add(term, 1, 12, 0, 0, life, right);
        x.pass(1);
        same("what is left", x.right(0), right - x.written(0));
        return x.written(0);
    }

    private static void writtenOff() {
        edge("the lesser one of the months of its term and of its life", () -> {
            same("the term is less by 1", firstOff(5, 6, 6000), 1200);
            same("they are one", firstOff(6, 6, 6000), 1000);
            same("the life is less by 1", firstOff(6, 5, 6000), 1200);
            same("the life is 120", firstOff(12, 120, 6000), 500);
        });
        edge("that are left at its beginning", () -> {
            Usewise x = new Usewise();
            x.add(12, 1, 12, 0, 0, 4, 10000);
            x.pass(1);
            same("of 4", x.right(0), 7500);
            x.pass(1);
            same("of 3", x.right(0), 5000);
            x.pass(1);
            same("of 2", x.right(0), 2500);
            x.pass(1);
            same("of 1", x.right(0), 0);
        });
        edge("with m 1 all of it: the last month of its life", () -> {
            same("life 2 of 12", firstOff(12, 2, 9999), 4999);
            same("life 1 of 12", firstOff(12, 1, 9999), 9999);
        });
        edge("with m 1 all of it: the last month of its term", () -> {
            same("2 months", firstOff(2, 120, 9999), 4999);
            same("1 month", firstOff(1, 120, 9999), 9999);
            same("1 month, life 1", firstOff(1, 1, 9999), 9999);
        });
        edge("but 1 at least: no month of its life is left, and fewer", () -> {
            Usewise x = new Usewise();
            x.add(9, 100, 0, 0, 0, 1, 0);
            x.pass(1);
            same("in its life", x.written(0), 900);
            x.review(0, 100);
            same("a new right, with no life left", x.right(0), 800);
            x.pass(1);
            same("all of it", x.written(0), 900 + 800);
            x.review(0, 100);
            same("a new right, one month behind its life", x.right(0), 1400);
            x.pass(1);
            same("all of it", x.written(0), 1700 + 1400);
            same("nothing is left", x.right(0), 0);
        });
        edge("the right / m, rounded down", () -> {
            same("nothing", firstOff(10, 10, 0), 0);
            same("1 less than m", firstOff(10, 10, 9), 0);
            same("m", firstOff(10, 10, 10), 1);
            same("1 less than twice m", firstOff(10, 10, 19), 1);
            same("twice m", firstOff(10, 10, 20), 2);
        });
        edge("what was rounded off is written off at last", () -> {
            Usewise x = new Usewise();
            x.add(3, 1, 12, 0, 0, 3, 5);
            x.pass(1);
            same("5 / 3", x.right(0), 4);
            x.pass(1);
            same("4 / 2", x.right(0), 2);
            x.pass(1);
            same("2 / 1", x.right(0), 0);
            same("all", x.written(0), 5);
        });
        edge("months of its term that were put behind or taken off count", () -> {
            Usewise x = new Usewise();
            x.add(2, 1, 12, 0, 0, 120, 10000);
            x.lengthen(0, 3, 0);
            x.pass(1);
            same("10000 / 5", x.written(0), 2000);
            x.shorten(0, 2);
            same("half of it is left", x.right(0), 4000);
            x.pass(1);
            same("4000 / 2", x.written(0), 4000);
        });
        edge("months of its life are not more by lengthen()", () -> {
            Usewise x = new Usewise();
            x.add(2, 1, 12, 0, 0, 2, 10000);
            x.lengthen(0, 10, 0);
            x.pass(1);
            same("10000 / 2", x.written(0), 5000);
            x.pass(1);
            same("5000 / 1", x.written(0), 10000);
        });
    }

    // ---- changes

    /** Two months, of which one is past: a payment of 100 is to come, and there is no right. */
    private static Usewise withoutRight() {
        Usewise x = new Usewise();
        x.add(2, 100, 0, 0, 0, 1, 0);
        x.pass(1);
        same("no right", x.right(0), 0);
        same("a debt", x.debt(0), 100);
        return x;
    }

    private static void thePaymentsAreChanged() {
        edge("what it is more by that comes to the right: review()", () -> {
            Usewise x = withoutRight();
            x.review(0, 1);
            same("right", x.right(0), 1);
            same("gains", x.gains(0), 0);
        });
        edge("what it is more by that comes to the right: lengthen()", () -> {
            Usewise x = withoutRight();
            x.lengthen(0, 1, 0);
            same("nothing more", x.right(0), 0);
            x.lengthen(0, 1, 1);
            same("1 more", x.right(0), 1);
            same("gains", x.gains(0), 0);
        });
        edge("what it is less is taken off the right", () -> {
            Usewise x = one(2, 100);
            x.review(0, -50);
            same("right", x.right(0), 100);
            same("gains", x.gains(0), 0);
        });
        edge("if the right would be below 0: 1 is left", () -> {
            Usewise x = withoutRight();
            x.review(0, 3);
            // 103 -> 101 (101.97)
            x.review(0, -1);
            same("right", x.right(0), 1);
            same("gains", x.gains(0), 0);
        });
        edge("if the right would be below 0: 0 itself", () -> {
            Usewise x = withoutRight();
            x.review(0, 100);
            x.review(0, -50);
            same("right", x.right(0), 0);
            same("no gain", x.gains(0), 0);
        });
        edge("if the right would be below 0: by 1, it is 0, and what is lacking is a gain", () -> {
            Usewise x = withoutRight();
            x.review(0, 1);
            // 101 -> 99 (99.99)
            x.review(0, -1);
            same("right", x.right(0), 0);
            same("the gain", x.gains(0), 1);
        });
        edge("if the right would be below 0: by all that the debt is less", () -> {
            Usewise x = withoutRight();
            same("debt", x.review(0, -50), 50);
            same("right", x.right(0), 0);
            same("the gain", x.gains(0), 50);
        });
    }

    private static void aPartIsGivenUp() {
        edge("is a gain: above 0", () -> {
            Usewise x = withoutRight();
            same("cut", x.cut(0, 50), 50);
            same("gains", x.gains(0), 50);
            x.lengthen(0, 1, 50);
            // a right of 50 of 2 months, a debt of 100
            same("shorten", x.shorten(0, 1), 50 - 25);
            same("gains", x.gains(0), 75);
        });
        edge("is a gain: 0", () -> {
            Usewise x = one(2, 100);
            same("cut", x.cut(0, 50), 0);
            same("shorten", x.shorten(0, 1), 0);
            same("gains", x.gains(0), 0);
        });
        edge("is a gain (perhaps below 0)", () -> {
            Usewise x = new Usewise();
            x.add(2, 100, 0, 0, 0, 120, 2);
            same("cut", x.cut(0, 50), -1);
            same("gains", x.gains(0), -1);
            // 101 of 2 months is 50 of 1; the debt of 100 is 50
            same("shorten", x.shorten(0, 1), 50 - 51);
            same("gains", x.gains(0), -2);
        });
        edge("is a gain: all of the right, where there is no debt", () -> {
            Usewise x = new Usewise();
            x.add(2, 100, 12, 0, 0, 120, 10000);
            same("cut", x.cut(0, 99), -9900);
            same("shorten", x.shorten(0, 1), -50);
        });
    }

    // ---- exceptions

    private static Usewise over() {
        Usewise x = one(1, 5);
        x.pass(1);
        return x;
    }

    private static Usewise full() {
        Usewise x = one(60, 10000);
        x.lengthen(0, 36, 10000);
        x.lengthen(0, 24, 10000);
        toTheMost(x, 0);
        return x;
    }

    private static void severalExceptions() {
        edge("the first one: no such lease, and an argument out of range", () -> {
            for (int lease : new int[] {-1, 1, 6}) {
                refused("review", INDEX, () -> one(2, 5), x -> x.review(lease, 101));
                refused("lengthen, months", INDEX, () -> one(2, 5), x -> x.lengthen(lease, 37, 5));
                refused("lengthen, payment", INDEX, () -> one(2, 5), x -> x.lengthen(lease, 1, -1));
                refused("shorten", INDEX, () -> one(2, 5), x -> x.shorten(lease, 0));
                refused("cut", INDEX, () -> one(2, 5), x -> x.cut(lease, 100));
                refused("rateFor", INDEX, () -> one(2, 5), x -> x.rateFor(lease, -1));
                refused("saleGain, book", INDEX, () -> one(2, 5), x -> x.saleGain(lease, -1, 1));
                refused("saleGain, price", INDEX, () -> one(2, 5), x -> x.saleGain(lease, 1, 0));
            }
        });
        edge("the first one: an argument out of range, and it is over", () -> {
            refused("review", ARGUMENT, EdgesOfTerms::over, x -> x.review(0, -51));
            refused("review", ARGUMENT, EdgesOfTerms::over, x -> x.review(0, 101));
            refused("lengthen", ARGUMENT, EdgesOfTerms::over, x -> x.lengthen(0, 0, 5));
            refused("lengthen", ARGUMENT, EdgesOfTerms::over, x -> x.lengthen(0, 37, 5));
            refused("lengthen", ARGUMENT, EdgesOfTerms::over, x -> x.lengthen(0, 1, -1));
            refused("lengthen", ARGUMENT, EdgesOfTerms::over, x -> x.lengthen(0, 1, 10001));
            refused("cut", ARGUMENT, EdgesOfTerms::over, x -> x.cut(0, 0));
            refused("cut", ARGUMENT, EdgesOfTerms::over, x -> x.cut(0, 100));
            refused("shorten", ARGUMENT, EdgesOfTerms::over, x -> x.shorten(0, 0));
            refused("shorten", ARGUMENT, EdgesOfTerms::over, x -> x.shorten(0, 61));
        });
        edge("the first one: an argument out of range, and too much of it", () -> {
            refused("review", ARGUMENT, EdgesOfTerms::full, x -> x.review(0, 101));
            refused("lengthen, months", ARGUMENT, EdgesOfTerms::full, x -> x.lengthen(0, 37, 5));
            refused("lengthen, payment", ARGUMENT, EdgesOfTerms::full, x -> x.lengthen(0, 36, 10001));
            refused("shorten", ARGUMENT, () -> one(60, 5), x -> x.shorten(0, 61));
            refused("add", ARGUMENT, () -> many(6), x -> add(x, 61, 5));
        });
        edge("the exception of the state comes where no other does", () -> {
            refused("review", STATE, EdgesOfTerms::full, x -> x.review(0, 100));
            refused("lengthen", STATE, EdgesOfTerms::full, x -> x.lengthen(0, 36, 10000));
            refused("shorten", STATE, () -> one(60, 5), x -> x.shorten(0, 60));
            refused("add", STATE, () -> many(6), x -> add(x, 60, 5));
        });
    }

    /** Six leases in the midst of things, of which the last is over. */
    private static Usewise inTheMidst() {
        Usewise x = new Usewise();
        for (int i = 0; i < 5; i++) {
            x.add(9 + i, 1000 + i, i, 10, 5000 + i, 5 + 2 * i, 10 * i);
        }
        add(x, 2, 50);
        x.pass(3);
        x.review(0, 30);
        x.lengthen(1, 3, 77);
        x.shorten(2, 2);
        x.cut(3, 15);
        x.review(4, -40);
        return x;
    }

    private static void changesNothing() {
        Maker midst = EdgesOfTerms::inTheMidst;
        refused("add, argument", ARGUMENT, midst, x -> x.add(5, 5, 5, 5, 5, 5, -1));
        refused("add, state", STATE, midst, x -> x.add(5, 5, 5, 5, 5, 5, 5));
        refused("pass", ARGUMENT, midst, x -> x.pass(0));
        refused("pass", ARGUMENT, midst, x -> x.pass(25));
        for (int lease = 0; lease < 6; lease++) {
            int of = lease;
            refused("review", ARGUMENT, midst, x -> x.review(of, 101));
            refused("lengthen, months", ARGUMENT, midst, x -> x.lengthen(of, 0, 5));
            refused("lengthen, payment", ARGUMENT, midst, x -> x.lengthen(of, 5, 10001));
            refused("shorten, argument", ARGUMENT, midst, x -> x.shorten(of, 0));
            refused("shorten, state", STATE, midst, x -> x.shorten(of, 40));
            refused("cut", ARGUMENT, midst, x -> x.cut(of, 100));
            refused("payment", INDEX, midst, x -> x.payment(of, 40));
            refused("rateFor", ARGUMENT, midst, x -> x.rateFor(of, -1));
            refused("saleGain", ARGUMENT, midst, x -> x.saleGain(of, 5, 0));
        }
        refused("review, over", STATE, midst, x -> x.review(5, 1));
        refused("lengthen, over", STATE, midst, x -> x.lengthen(5, 1, 1));
        refused("cut, over", STATE, midst, x -> x.cut(5, 1));
    }
}
