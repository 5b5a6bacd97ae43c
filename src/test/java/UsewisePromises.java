import java.lang.reflect.Constructor;
import java.lang.reflect.Field;
import java.lang.reflect.Method;
import java.lang.reflect.Modifier;
import java.util.TreeSet;

/** For each promise: ordinary inputs, the edges that the document names, and wrong inputs. */
public final class UsewisePromises extends Checks {
    public static void main(String[] args) {
        theFace();
        aNewObject();
        adding();
        addingOutOfRange();
        addingTooMany();
        passing();
        passingWritesOff();
        passingManyLeases();
        reviewing();
        reviewingTakesOffTheRight();
        reviewingTooHigh();
        lengthening();
        lengtheningToTheMost();
        shortening();
        cutting();
        monthsToCome();
        paymentsToCome();
        debts();
        debtsByWorth();
        rights();
        interests();
        writtenOff();
        paidSums();
        gainSums();
        ratesFor();
        saleGains();
        noSuchLease();
        whichExceptionComesFirst();
        throwingChangesNothing();
        leasesStandAlone();
        end();
    }

    // ---- the face

    private static void theFace() {
        promise = "the face";
        yes("the class is public and final",
                Modifier.isPublic(Usewise.class.getModifiers()) && Modifier.isFinal(Usewise.class.getModifiers()));
        TreeSet<String> open = new TreeSet<>();
        TreeSet<String> closed = new TreeSet<>();
        for (Method method : Usewise.class.getDeclaredMethods()) {
            boolean isPrivate = Modifier.isPrivate(method.getModifiers());
            (isPrivate ? closed : open).add(method.getName());
            yes(method + " is public or private", isPrivate || Modifier.isPublic(method.getModifiers()));
        }
        yes("the public methods: " + open, open.toString().equals("[add, cut, debt, debtByWorth, gains, interest, "
                + "lengthen, paid, pass, payment, rateFor, review, right, saleGain, shorten, toCome, written]"));
        open.retainAll(closed);
        yes("no private method bears a public name: " + open, open.isEmpty());
        for (Field field : Usewise.class.getDeclaredFields()) {
            yes(field + " is private, or NONE",
                    Modifier.isPrivate(field.getModifiers()) || field.getName().equals("NONE"));
        }
        Constructor<?>[] made = Usewise.class.getDeclaredConstructors();
        yes("one constructor", made.length == 1 && Modifier.isPublic(made[0].getModifiers()));
        same("NONE", Usewise.NONE, -1);
    }

    // ---- promise 1

    private static void aNewObject() {
        promise = "1, a new object";
        Usewise x = new Usewise();
        fails("toCome", INDEX, () -> x.toCome(0));
        fails("debt", INDEX, () -> x.debt(0));
        same("nothing becomes over", x.pass(24), 0);
        same("the first number", add(x, 3, 100), 0);
    }

    // ---- promise 2

    private static void adding() {
        promise = "2, add";
        Usewise x = new Usewise();
        same("first", x.add(60, 100, 3, 7, 0, 60, 11), 0);
        same("a free month", x.payment(0, 0), 0);
        same("the last free month", x.payment(0, 2), 0);
        same("behind the free months", x.payment(0, 3), 100);
        same("month 11", x.payment(0, 11), 100);
        same("month 12", x.payment(0, 12), 107);
        same("month 23", x.payment(0, 23), 107);
        same("month 24", x.payment(0, 24), 114);
        same("month 59", x.payment(0, 59), 128);
        same("term", x.toCome(0), 60);
        same("debt at rate 0", x.debt(0), 9 * 100 + 12 * (107 + 114 + 121 + 128));
        same("right with costs", x.right(0), x.debt(0) + 11);
        sums("no sums yet", x, 0, 0, 0, 0);
        same("second", x.add(12, 1, 12, 1000, 20000, 1, 10000), 1);
        same("all months free", x.debt(1), 0);
        same("costs alone", x.right(1), 10000);
        same("third", x.add(13, 1, 12, 1000, 0, 1, 0), 2);
        same("step behind the free months", x.payment(2, 12), 1001);
        same("fourth", x.add(1, 1, 12, 0, 0, 1, 0), 3);
        same("more free months than the term", x.debt(3), 0);
        same("fifth", x.add(60, 10000, 0, 1000, 20000, 120, 10000), 4);
        same("the highest payment", x.payment(4, 59), 14000);
        same("sixth", x.add(1, 1, 0, 0, 0, 1, 0), 5);
        same("the least lease", x.debt(5), 1);
    }

    private static void addingOutOfRange() {
        promise = "2, add out of range";
        int[] good = {12, 100, 2, 5, 1000, 24, 50};
        int[] least = {1, 1, 0, 0, 0, 1, 0};
        int[] most = {60, 10000, 12, 1000, 20000, 120, 10000};
        for (int i = 0; i < good.length; i++) {
            for (int value : new int[] {least[i] - 1, most[i] + 1, LOW, HIGH}) {
                int[] given = good.clone();
                given[i] = value;
                Usewise x = new Usewise();
                fails("argument " + i + " of " + value, ARGUMENT, () -> add(x, given));
                fails("nothing was added", INDEX, () -> x.debt(0));
            }
            for (int value : new int[] {least[i], most[i]}) {
                int[] given = good.clone();
                given[i] = value;
                same("argument " + i + " of " + value, add(new Usewise(), given), 0);
            }
        }
    }

    private static void addingTooMany() {
        promise = "2, add too many";
        Usewise x = new Usewise();
        for (int i = 0; i < 6; i++) {
            same("number", add(x, 1, 1 + i), i);
        }
        fails("a seventh", STATE, () -> add(x, 1, 1));
        fails("the argument comes first", ARGUMENT, () -> add(x, 0, 1));
        x.pass(1);
        fails("those that are over count", STATE, () -> add(x, 1, 1));
        same("the last is kept", x.paid(5), 6);
    }

    // ---- promise 3

    private static void passing() {
        promise = "3, pass";
        Usewise x = new Usewise();
        x.add(3, 100, 0, 0, 10000, 3, 0);
        // backwards: 100 -> 100; 200 -> 199 (198.02); 299 -> 297 (296.04)
        same("debt", x.debt(0), 297);
        same("none over", x.pass(1), 0);
        same("debt after one", x.debt(0), 199);
        sums("after one", x, 2, 99, 100, 0);
        same("right after one", x.right(0), 198);
        same("over in the last", x.pass(2), 1);
        sums("after all", x, 3, 297, 300, 0);
        same("over but once", x.pass(1), 0);
        sums("nothing more", x, 3, 297, 300, 0);
        for (int months : new int[] {0, 25, -1, LOW, HIGH}) {
            fails("months of " + months, ARGUMENT, () -> x.pass(months));
        }
        Usewise y = new Usewise();
        add(y, 25, 10);
        same("24 months", y.pass(24), 0);
        same("one left", y.toCome(0), 1);
        same("the last", y.pass(24), 1);
        same("none left", y.toCome(0), 0);
    }

    private static void passingWritesOff() {
        promise = "3, pass writes off";
        Usewise x = new Usewise();
        x.add(10, 100, 0, 0, 0, 4, 3);
        x.pass(1);
        same("over the life, rounded down", x.written(0), 250);
        same("right", x.right(0), 753);
        x.pass(2);
        same("right", x.right(0), 251);
        x.pass(1);
        same("all in the last month of life", x.right(0), 0);
        x.review(0, 100);
        same("the right comes again", x.right(0), 600);
        x.pass(1);
        same("behind its life all at once", x.right(0), 0);
        same("written", x.written(0), 1603);
        Usewise y = new Usewise();
        y.add(4, 100, 0, 0, 0, 120, 2);
        y.pass(1);
        same("over the term", y.written(0), 100);
        y.lengthen(0, 7, 0);
        y.pass(1);
        same("over the longer term", y.written(0), 100 + 30);
        y.shorten(0, 8);
        y.pass(1);
        same("all in the last month", y.right(0), 0);
    }

    private static void passingManyLeases() {
        promise = "3, pass for many";
        Usewise x = new Usewise();
        add(x, 1, 10);
        add(x, 2, 10);
        add(x, 3, 10);
        add(x, 3, 10);
        same("two over", x.pass(2), 2);
        same("those that go on", x.toCome(2), 1);
        same("two more", x.pass(24), 2);
        same("none", x.pass(24), 0);
        same("no more is paid than is due", x.paid(0) + x.paid(1) + x.paid(2), 60);
        add(x, 1, 10);
        same("a later one", x.pass(1), 1);
    }

    // ---- promise 4

    private static void reviewing() {
        promise = "4, review";
        Usewise x = new Usewise();
        x.add(4, 101, 1, 0, 0, 4, 0);
        x.pass(2);
        same("the debt then", x.review(0, 7), 216);
        same("rounded down", x.payment(0, 0), 108);
        same("the debt", x.debt(0), 216);
        same("more debt comes to the right", x.right(0), 152 + 14);
        same("no gain", x.gains(0), 0);
        same("what is paid stays", x.paid(0), 101);
        same("no change", x.review(0, 0), 216);
        same("the most", x.review(0, 100), 432);
        same("the least", x.review(0, -50), 216);
        for (int percent : new int[] {-51, 101, LOW, HIGH}) {
            fails("percent of " + percent, ARGUMENT, () -> x.review(0, percent));
        }
        x.pass(2);
        fails("over", STATE, () -> x.review(0, 5));
        fails("over, but the argument comes first", ARGUMENT, () -> x.review(0, 101));
        Usewise y = new Usewise();
        y.add(3, 3, 1, 0, 0, 3, 0);
        same("free months stay free", y.review(0, 50), 8);
        same("free month", y.payment(0, 0), 0);
        same("down to nothing", reviews(y, 0, -50, 3), 0);
        same("nothing stays nothing", y.review(0, 100), 0);
    }

    private static void reviewingTakesOffTheRight() {
        promise = "4, review takes off the right";
        Usewise x = new Usewise();
        x.add(10, 100, 0, 0, 0, 2, 0);
        x.pass(1);
        same("right", x.right(0), 500);
        same("less", x.review(0, -50), 450);
        same("less right", x.right(0), 50);
        same("no gain yet", x.gains(0), 0);
        same("less again", x.review(0, -50), 225);
        same("no right below 0", x.right(0), 0);
        same("what is lacking is a gain", x.gains(0), 175);
        same("more again", x.review(0, 100), 450);
        same("right", x.right(0), 225);
        same("to 0 and no further", x.review(0, -50), 225);
        same("right", x.right(0), 0);
        same("no more gain", x.gains(0), 175);
    }

    private static void reviewingTooHigh() {
        promise = "4, review too high";
        Usewise x = new Usewise();
        x.add(2, 10000, 1, 0, 0, 2, 0);
        same("doubled", reviews(x, 0, 100, 6), 640000);
        fails("too high", STATE, () -> x.review(0, 57));
        same("nothing changed", x.payment(0, 1), 640000);
        same("just below", x.review(0, 56), 998400);
        fails("too high", STATE, () -> x.review(0, 1));
        Usewise y = new Usewise();
        y.add(13, 10000, 0, 1000, 0, 2, 0);
        y.review(0, -50);
        y.review(0, -50);
        y.review(0, -50);
        same("a payment", y.payment(0, 0), 1250);
        reviews(y, 0, 100, 9);
        same("the payment", y.payment(0, 0), 640000);
        fails("one payment too high is enough", STATE, () -> y.review(0, 50));
        y.shorten(0, 1);
        same("without it", y.review(0, 50), 12 * 960000);
        Usewise z = new Usewise();
        z.add(2, 10000, 0, 0, 0, 2, 0);
        reviews(z, 0, 25, 2);
        same("1000000 itself", reviews(z, 0, 100, 6), 2 * 1000000);
        same("no more than that", z.review(0, 0), 2 * 1000000);
        fails("1010000", STATE, () -> z.review(0, 1));
        Usewise v = new Usewise();
        v.add(1, 9542, 0, 0, 0, 1, 0);
        reviews(v, 0, 100, 6);
        same("near the most", v.review(0, 25), 763360);
        fails("1000001", STATE, () -> v.review(0, 31));
        same("as it was", v.payment(0, 0), 763360);
        Usewise w = new Usewise();
        w.add(2, 10000, 0, 0, 0, 2, 0);
        reviews(w, 0, 100, 6);
        w.lengthen(0, 1, 1);
        w.pass(2);
        same("past payments do not count", w.review(0, 100), 2);
    }

    // ---- promise 5

    private static void lengthening() {
        promise = "5, lengthen";
        Usewise x = new Usewise();
        x.add(2, 100, 0, 0, 10000, 24, 0);
        x.pass(1);
        same("debt", x.debt(0), 100);
        same("right", x.right(0), 100);
        // 40 -> 40; 80 -> 80 (79.2); 180 -> 179 (178.2)
        same("the debt then", x.lengthen(0, 2, 40), 179);
        same("debt", x.debt(0), 179);
        same("right", x.right(0), 179);
        same("months", x.toCome(0), 3);
        same("payments", x.payment(0, 0), 100);
        same("payments", x.payment(0, 1), 40);
        same("payments", x.payment(0, 2), 40);
        same("free months behind", x.lengthen(0, 36, 0), 179);
        same("months", x.toCome(0), 39);
        yes("the highest", x.lengthen(0, 1, 10000) > 179);
        for (int months : new int[] {0, 37, -1, LOW, HIGH}) {
            fails("months of " + months, ARGUMENT, () -> x.lengthen(0, months, 5));
        }
        for (int payment : new int[] {-1, 10001, LOW, HIGH}) {
            fails("payment of " + payment, ARGUMENT, () -> x.lengthen(0, 1, payment));
        }
        Usewise y = new Usewise();
        add(y, 1, 5);
        y.pass(1);
        fails("over", STATE, () -> y.lengthen(0, 1, 5));
        fails("over, but the argument comes first", ARGUMENT, () -> y.lengthen(0, 0, 5));
    }

    private static void lengtheningToTheMost() {
        promise = "5, lengthen to the most";
        Usewise x = new Usewise();
        add(x, 60, 1);
        x.lengthen(0, 36, 1);
        fails("121 months", STATE, () -> x.lengthen(0, 25, 1));
        same("120 months", x.lengthen(0, 24, 1), 120);
        fails("one more", STATE, () -> x.lengthen(0, 1, 1));
        x.pass(24);
        fails("past months count", STATE, () -> x.lengthen(0, 1, 1));
        x.shorten(0, 2);
        fails("only what was taken off", STATE, () -> x.lengthen(0, 3, 9));
        same("what was taken off", x.lengthen(0, 2, 9), 94 + 18);
        same("one over at the end of 120", passes(x, 4), 1);
        same("paid", x.paid(0), 118 + 18);
    }

    // ---- promise 6

    private static void shortening() {
        promise = "6, shorten";
        Usewise x = new Usewise();
        x.add(7, 100, 0, 0, 0, 120, 5);
        x.pass(1);
        same("right", x.right(0), 705 - 100);
        // right 605 * 4 / 6 = 403; the debt is 200 less, the right 202
        same("the gain", x.shorten(0, 2), -2);
        same("right", x.right(0), 403);
        same("debt", x.debt(0), 400);
        same("months", x.toCome(0), 4);
        same("gains", x.gains(0), -2);
        fails("no month left", STATE, () -> x.shorten(0, 4));
        fails("fewer than none", STATE, () -> x.shorten(0, 60));
        same("one left", x.shorten(0, 3), 300 - 303);
        same("right", x.right(0), 100);
        same("gains", x.gains(0), -5);
        for (int months : new int[] {0, 61, -1, LOW, HIGH}) {
            fails("months of " + months, ARGUMENT, () -> x.shorten(0, months));
        }
        same("over", x.pass(1), 1);
        fails("over", STATE, () -> x.shorten(0, 1));
        Usewise y = new Usewise();
        y.add(60, 50, 0, 0, 0, 1, 0);
        y.pass(1);
        y.lengthen(0, 36, 50);
        // the right is 36 months of 50, of 95 months: 1800 * 35 / 95 = 663
        same("sixty off", y.shorten(0, 60), 3000 - (1800 - 663));
        same("right", y.right(0), 663);
        y.shorten(0, 30);
        y.lengthen(0, 2, 7);
        same("what was taken off is gone", y.payment(0, 5), 7);
        same("debt", y.debt(0), 5 * 50 + 14);
    }

    // ---- promise 7

    private static void cutting() {
        promise = "7, cut";
        Usewise x = new Usewise();
        x.add(3, 101, 0, 0, 0, 3, 8);
        x.pass(1);
        same("right", x.right(0), 311 - 103);
        // payments 70, right 145; the debt is 62 less, the right 63
        same("the gain", x.cut(0, 30), -1);
        same("payment", x.payment(0, 0), 70);
        same("payment", x.payment(0, 1), 70);
        same("right", x.right(0), 145);
        same("debt", x.debt(0), 140);
        same("gains", x.gains(0), -1);
        same("the least", x.cut(0, 1), (140 - 138) - (145 - 143));
        same("the most", x.cut(0, 99), 138 - (143 - 1));
        same("nothing is left to pay", x.debt(0), 0);
        same("right", x.right(0), 1);
        same("gains", x.gains(0), -5);
        for (int percent : new int[] {0, 100, -1, LOW, HIGH}) {
            fails("percent of " + percent, ARGUMENT, () -> x.cut(0, percent));
        }
        same("months go on", x.toCome(0), 2);
        x.pass(2);
        fails("over", STATE, () -> x.cut(0, 50));
        fails("over, but the argument comes first", ARGUMENT, () -> x.cut(0, 100));
        Usewise y = new Usewise();
        y.add(60, 10000, 0, 1000, 0, 120, 10000);
        y.lengthen(0, 36, 10000);
        reviews(y, 0, 100, 6);
        long right = y.right(0);
        y.cut(0, 1);
        same("a great right", y.right(0), right * 99 / 100);
    }

    // ---- promises 8 and 9

    private static void monthsToCome() {
        promise = "8, toCome";
        Usewise x = new Usewise();
        add(x, 60, 1);
        add(x, 1, 1);
        same("term", x.toCome(0), 60);
        same("term", x.toCome(1), 1);
        x.pass(24);
        same("after 24", x.toCome(0), 36);
        same("over", x.toCome(1), 0);
        x.lengthen(0, 5, 1);
        same("longer", x.toCome(0), 41);
        x.shorten(0, 40);
        same("shorter", x.toCome(0), 1);
    }

    private static void paymentsToCome() {
        promise = "9, payment";
        Usewise x = new Usewise();
        x.add(14, 100, 1, 10, 0, 14, 0);
        same("next", x.payment(0, 0), 0);
        same("last", x.payment(0, 13), 110);
        for (int months : new int[] {14, 15, 120, 121, -1, LOW, HIGH}) {
            fails("months of " + months, INDEX, () -> x.payment(0, months));
        }
        x.pass(1);
        same("next", x.payment(0, 0), 100);
        same("last", x.payment(0, 12), 110);
        fails("past its end", INDEX, () -> x.payment(0, 13));
        fails("no payment that is past", INDEX, () -> x.payment(0, -1));
        x.pass(13);
        fails("over", INDEX, () -> x.payment(0, 0));
    }

    // ---- promises 10 and 11

    private static void debts() {
        promise = "10, debt";
        Usewise x = new Usewise();
        x.add(2, 1000, 0, 0, 20000, 2, 500);
        // 1000 -> 981 (980.4); 1981 -> 1943 (1942.2)
        same("two months", x.debt(0), 1943);
        x.pass(1);
        same("one month", x.debt(0), 981);
        x.pass(1);
        same("over", x.debt(0), 0);
        Usewise y = new Usewise();
        y.add(1, 10000, 0, 0, 0, 1, 0);
        same("no rate", y.debt(0), 10000);
        Usewise z = new Usewise();
        z.add(1, 102, 0, 0, 20000, 1, 0);
        same("no rounding where it is exact", z.debt(0), 100);
        Usewise v = new Usewise();
        v.add(1, 9010, 0, 0, 111, 1, 0);
        // 9010 * 1000000 is 1 more than 9009 * 1000111
        same("rounded up from the least that is over", v.debt(0), 9010);
        Usewise w = new Usewise();
        w.add(60, 10000, 0, 1000, 0, 120, 0);
        w.lengthen(0, 36, 10000);
        w.lengthen(0, 24, 10000);
        same("a great debt", reviews(w, 0, 100, 6), 64 * (60 * 10000 + 12 * 10000 + 60 * 10000));
    }

    private static void debtsByWorth() {
        promise = "11, debtByWorth";
        Usewise x = new Usewise();
        x.add(40, 777, 5, 33, 4321, 30, 9);
        for (int turn = 0; turn < 40; turn++) {
            same("the same in month " + turn, x.debtByWorth(0), x.debt(0));
            if (turn == 7) {
                x.review(0, -13);
            } else if (turn == 11) {
                x.lengthen(0, 9, 55);
            } else if (turn == 17) {
                x.shorten(0, 9);
            } else if (turn == 23) {
                x.cut(0, 17);
            }
            same("the same after turn " + turn, x.debtByWorth(0), x.debt(0));
            yes("not over", x.debtByWorth(0) > 0);
            x.pass(1);
        }
        same("over", x.debtByWorth(0), 0);
    }

    // ---- promises 12 to 16

    private static void rights() {
        promise = "12, right";
        Usewise x = new Usewise();
        x.add(3, 100, 0, 0, 10000, 3, 0);
        x.add(3, 100, 0, 0, 10000, 3, 10000);
        same("without costs", x.right(0), 297);
        same("with costs", x.right(1), 10297);
        x.pass(1);
        same("written down", x.right(1), 10297 - 3432);
        // 200 -> 199 (198.02); 399 -> 396 (395.05)
        x.review(1, 100);
        same("more by the debt", x.right(1), 10297 - 3432 + (396 - 199));
        x.pass(2);
        same("over", x.right(1), 0);
    }

    private static void interests() {
        promise = "13, interest";
        Usewise x = new Usewise();
        x.add(3, 1000, 1, 0, 10000, 3, 0);
        // 1000 -> 991 (990.1); 1991 -> 1972 (1971.3); 1972 -> 1953 (1952.5)
        same("none yet", x.interest(0), 0);
        x.pass(1);
        same("of a free month", x.interest(0), 1972 - 1953);
        x.pass(1);
        same("two months", x.interest(0), 19 + 991 + 1000 - 1972);
        x.pass(1);
        same("all", x.interest(0), 2000 - 1953);
        x.pass(9);
        same("no more when it is over", x.interest(0), 47);
        Usewise y = new Usewise();
        add(y, 5, 100);
        y.pass(5);
        same("no rate, no interest", y.interest(0), 0);
    }

    private static void writtenOff() {
        promise = "14, written";
        Usewise x = new Usewise();
        x.add(3, 100, 0, 0, 0, 3, 10);
        same("none yet", x.written(0), 0);
        x.pass(1);
        same("one month", x.written(0), 103);
        x.pass(1);
        same("two months", x.written(0), 206);
        x.cut(0, 50);
        same("a cut is not written off", x.written(0), 206);
        x.pass(1);
        same("all of it", x.written(0), 206 + 52);
        x.pass(1);
        same("no more", x.written(0), 258);
    }

    private static void paidSums() {
        promise = "15, paid";
        Usewise x = new Usewise();
        x.add(14, 100, 2, 10, 5000, 14, 999);
        same("none yet, without costs", x.paid(0), 0);
        x.pass(2);
        same("free months", x.paid(0), 0);
        x.pass(11);
        same("eleven more", x.paid(0), 10 * 100 + 110);
        x.review(0, 10);
        x.pass(24);
        same("all", x.paid(0), 1110 + 121);
    }

    private static void gainSums() {
        promise = "16, gains";
        Usewise x = new Usewise();
        x.add(10, 100, 0, 0, 0, 1, 0);
        same("none yet", x.gains(0), 0);
        x.pass(1);
        same("passing is no gain", x.gains(0), 0);
        same("cut", x.cut(0, 10), 90);
        same("shorten", x.shorten(0, 2), 180);
        same("review", x.review(0, -10), 7 * 81);
        same("the sum of all", x.gains(0), 90 + 180 + 63);
        x.lengthen(0, 1, 10);
        same("lengthen is no gain", x.gains(0), 333);
        x.pass(24);
        same("kept when it is over", x.gains(0), 333);
    }

    // ---- promise 17

    private static void ratesFor() {
        promise = "17, rateFor";
        Usewise x = new Usewise();
        x.add(1, 10000, 0, 0, 300, 1, 0);
        same("worth all", x.rateFor(0, 10000), 0);
        same("worth more", x.rateFor(0, 10000000), 0);
        // 10000 * 1000000 / 9999 = 1000100.01
        same("a little less", x.rateFor(0, 9999), 101);
        // 10000 * 1000000 / 9805 = 1019887.8
        same("much less", x.rateFor(0, 9805), 19888);
        // at 20000: 9803.9, so 9804
        same("the least that can be", x.rateFor(0, 9804), 19992);
        same("less than can be", x.rateFor(0, 9803), Usewise.NONE);
        same("nothing", x.rateFor(0, 0), Usewise.NONE);
        same("its own rate is kept", x.debt(0), 9998);
        Usewise y = new Usewise();
        y.add(1, 102, 0, 0, 0, 1, 0);
        same("the highest rate alone", y.rateFor(0, 100), 20000);
        same("none", y.rateFor(0, 99), Usewise.NONE);
        for (int value : new int[] {-1, 10000001, LOW, HIGH}) {
            fails("value of " + value, ARGUMENT, () -> y.rateFor(0, value));
        }
        y.pass(1);
        same("over", y.rateFor(0, 0), 0);
        Usewise z = new Usewise();
        z.add(3, 500, 12, 0, 0, 1, 0);
        same("free months", z.rateFor(0, 0), 0);
        Usewise w = new Usewise();
        w.add(60, 10000, 0, 1000, 20000, 120, 0);
        w.lengthen(0, 36, 10000);
        reviews(w, 0, 100, 6);
        same("worth above any value", w.rateFor(0, 10000000), Usewise.NONE);
    }

    // ---- promise 18

    private static void saleGains() {
        promise = "18, saleGain";
        Usewise x = new Usewise();
        x.add(3, 100, 0, 0, 0, 3, 0);
        same("a gain", x.saleGain(0, 200, 1000), 800 * 700 / 1000);
        same("a loss", x.saleGain(0, 1500, 1000), -350);
        same("rounded towards 0", x.saleGain(0, 0, 307), 7);
        same("rounded down", x.saleGain(0, 998, 1001), 3 * 701 / 1001);
        same("a loss rounded towards 0", x.saleGain(0, 1004, 1001), -2);
        same("a small loss", x.saleGain(0, 1002, 1001), 0);
        same("the debt is the price", x.saleGain(0, 0, 300), 0);
        same("the debt is more", x.saleGain(0, 0, 299), 0);
        same("the debt is more, with a loss", x.saleGain(0, 500, 200), 0);
        same("the least price", x.saleGain(0, 10000000, 1), 0);
        same("the highest", x.saleGain(0, 0, 10000000), 10000000 - 300);
        same("no gain", x.saleGain(0, 10000000, 10000000), 0);
        for (int book : new int[] {-1, 10000001, LOW, HIGH}) {
            fails("book of " + book, ARGUMENT, () -> x.saleGain(0, book, 5));
        }
        for (int price : new int[] {0, -1, 10000001, LOW, HIGH}) {
            fails("price of " + price, ARGUMENT, () -> x.saleGain(0, 5, price));
        }
        x.pass(3);
        same("over", x.saleGain(0, 10000000, 1), -9999999);
        same("over", x.saleGain(0, 3, 9), 6);
    }

    // ---- for all calls

    private static void noSuchLease() {
        promise = "no such lease";
        Usewise x = new Usewise();
        add(x, 3, 10);
        for (int lease : new int[] {-1, 1, 2, 5, 6, 7, LOW, HIGH}) {
            fails("review " + lease, INDEX, () -> x.review(lease, 1));
            fails("lengthen " + lease, INDEX, () -> x.lengthen(lease, 1, 1));
            fails("shorten " + lease, INDEX, () -> x.shorten(lease, 1));
            fails("cut " + lease, INDEX, () -> x.cut(lease, 1));
            fails("toCome " + lease, INDEX, () -> x.toCome(lease));
            fails("payment " + lease, INDEX, () -> x.payment(lease, 0));
            fails("debt " + lease, INDEX, () -> x.debt(lease));
            fails("debtByWorth " + lease, INDEX, () -> x.debtByWorth(lease));
            fails("right " + lease, INDEX, () -> x.right(lease));
            fails("interest " + lease, INDEX, () -> x.interest(lease));
            fails("written " + lease, INDEX, () -> x.written(lease));
            fails("paid " + lease, INDEX, () -> x.paid(lease));
            fails("gains " + lease, INDEX, () -> x.gains(lease));
            fails("rateFor " + lease, INDEX, () -> x.rateFor(lease, 1));
            fails("saleGain " + lease, INDEX, () -> x.saleGain(lease, 1, 1));
        }
    }

    private static void whichExceptionComesFirst() {
        promise = "which exception comes first";
        Usewise x = new Usewise();
        fails("review", INDEX, () -> x.review(0, 101));
        fails("lengthen", INDEX, () -> x.lengthen(0, 0, -1));
        fails("shorten", INDEX, () -> x.shorten(0, 0));
        fails("cut", INDEX, () -> x.cut(0, 0));
        fails("rateFor", INDEX, () -> x.rateFor(0, -1));
        fails("saleGain", INDEX, () -> x.saleGain(0, -1, 0));
        add(x, 1, 10);
        fails("shorten", ARGUMENT, () -> x.shorten(0, 61));
        reviews(x, 0, 100, 2);
        x.pass(1);
        fails("review", ARGUMENT, () -> x.review(0, -51));
        fails("lengthen", ARGUMENT, () -> x.lengthen(0, 37, 0));
        fails("lengthen", ARGUMENT, () -> x.lengthen(0, 1, 10001));
        fails("shorten", ARGUMENT, () -> x.shorten(0, 0));
        fails("cut", ARGUMENT, () -> x.cut(0, 0));
    }

    private static void throwingChangesNothing() {
        promise = "a call that throws changes nothing";
        Usewise x = new Usewise();
        x.add(60, 10000, 0, 1000, 700, 50, 40);
        x.lengthen(0, 36, 10000);
        reviews(x, 0, 100, 6);
        x.pass(5);
        x.cut(0, 3);
        String before = stateOf(x);
        fails("pass", ARGUMENT, () -> x.pass(25));
        fails("review", STATE, () -> x.review(0, 100));
        fails("review", ARGUMENT, () -> x.review(0, 101));
        fails("lengthen", STATE, () -> x.lengthen(0, 36, 5));
        fails("lengthen", ARGUMENT, () -> x.lengthen(0, 3, 10001));
        fails("shorten", ARGUMENT, () -> x.shorten(0, 61));
        fails("cut", ARGUMENT, () -> x.cut(0, 100));
        fails("add", ARGUMENT, () -> x.add(60, 10000, 0, 1000, 700, 50, 10001));
        yes("as before", before.equals(stateOf(x)));
        x.shorten(0, 60);
        before = stateOf(x);
        fails("shorten", STATE, () -> x.shorten(0, 31));
        yes("as before", before.equals(stateOf(x)));
    }

    private static void leasesStandAlone() {
        promise = "each lease and each object stands alone";
        Usewise x = new Usewise();
        x.add(20, 100, 0, 0, 1000, 20, 0);
        x.add(20, 100, 0, 0, 1000, 20, 0);
        Usewise y = new Usewise();
        y.add(20, 100, 0, 0, 1000, 20, 0);
        x.review(0, 50);
        x.lengthen(0, 3, 9);
        x.shorten(0, 1);
        x.cut(0, 9);
        same("the other lease", x.debt(1), y.debt(0));
        same("its right", x.right(1), y.right(0));
        same("its gains", x.gains(1), 0);
        same("its months", x.toCome(1), 20);
        x.pass(1);
        same("the other object", y.toCome(0), 20);
    }

    private static void sums(String what, Usewise x, int interest, int written, int paid, int gains) {
        same(what + ", interest", x.interest(0), interest);
        same(what + ", written", x.written(0), written);
        same(what + ", paid", x.paid(0), paid);
        same(what + ", gains", x.gains(0), gains);
    }
}
