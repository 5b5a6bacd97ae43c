/** Promises 4 to 7: each sentence that names a boundary case, with its test. */
public final class EdgesOfChanges extends Checks {
    public static void main(String[] args) {
        reviewing();
        reviewingTooHigh();
        lengthening();
        hundredAndTwentyMonths();
        shortening();
        noMonthLeft();
        cutting();
        overLeases();
        end();
    }

    private static Usewise over() {
        Usewise x = one(1, 5);
        x.pass(1);
        return x;
    }

    /** Three months of 101, of which one is past: the debt and the right are 202. */
    private static Usewise ordinary() {
        Usewise x = one(3, 101);
        x.pass(1);
        return x;
    }

    // ---- promise 4

    private static void reviewing() {
        edge("4: percent: -50 to 100", () -> {
            for (int percent : new int[] {-51, 101, -100, -101, LOW, HIGH}) {
                refused("percent of " + percent, ARGUMENT, EdgesOfChanges::ordinary, x -> x.review(0, percent));
            }
            same("-50", ordinary().review(0, -50), 2 * 50);
            same("-49", ordinary().review(0, -49), 2 * 51);
            same("99", ordinary().review(0, 99), 2 * 200);
            same("100", ordinary().review(0, 100), 2 * 202);
        });
        edge("4: a percent of 0 changes nothing", () -> {
            Usewise x = ordinary();
            same("the debt", x.review(0, 0), 202);
            text("all", stateOf(x), stateOf(ordinary()));
        });
        edge("4: rounded down", () -> {
            Usewise x = one(1, 1);
            same("1.99", x.review(0, 99), 1);
            same("0.99", x.review(0, -1), 0);
            Usewise y = one(1, 99);
            same("99.99", y.review(0, 1), 99);
            Usewise z = one(1, 100);
            same("101 itself", z.review(0, 1), 101);
            same("99.99", z.review(0, -1), 99);
            same("100.98", z.review(0, 2), 100);
        });
        edge("4: Changes all payments that are to come: the first and the last", () -> {
            Usewise x = new Usewise();
            x.add(14, 100, 1, 10, 0, 120, 0);
            x.pass(3);
            x.review(0, 50);
            same("the first", x.payment(0, 0), 150);
            same("the last", x.payment(0, 10), 165);
            same("what is past is not", x.paid(0), 200);
            fails("and no more of them", INDEX, () -> x.payment(0, 11));
        });
        edge("4: Changes all payments that are to come: one alone", () -> {
            Usewise x = one(2, 100);
            x.pass(1);
            same("the last month", x.review(0, 50), 150);
        });
        edge("4: Changes all payments that are to come: those of 0", () -> {
            Usewise x = new Usewise();
            x.add(2, 100, 12, 0, 0, 120, 0);
            same("no debt", x.review(0, 100), 0);
            same("free", x.payment(0, 0), 0);
        });
        edge("4: Changes all payments that are to come: those put behind", () -> {
            Usewise x = one(1, 100);
            x.lengthen(0, 36, 10);
            same("the debt", x.review(0, 100), 200 + 720);
            same("the last", x.payment(0, 36), 20);
        });
        edge("4: Returns the debt then, rounded as it is", () -> {
            Usewise x = new Usewise();
            x.add(2, 100, 0, 0, 20000, 2, 0);
            // 110 -> 108 (107.8); 218 -> 214 (213.7)
            same("answered", x.review(0, 10), 214);
            same("kept", x.debt(0), 214);
        });
    }

    private static Usewise highest() {
        Usewise x = one(2, 10000);
        toTheMost(x, 0);
        return x;
    }

    private static void reviewingTooHigh() {
        edge("4: or a payment would be above 1000000: 1000000 itself", () -> {
            Usewise x = highest();
            same("is not above", x.payment(0, 1), 1000000);
            same("and may stay", x.review(0, 0), 2000000);
        });
        edge("4: or a payment would be above 1000000: 1000001", () -> {
            // 9542 * 64 * 125 / 100 is 763360; 763360 * 131 / 100 is 1000001.6
            Maker maker = () -> {
                Usewise x = one(1, 9542);
                reviews(x, 0, 100, 6);
                x.review(0, 25);
                return x;
            };
            refused("1000001", STATE, maker, x -> x.review(0, 31));
            same("a percent less", maker.make().review(0, 30), 992368);
        });
        edge("4: or a payment would be above 1000000: rounded down it is not", () -> {
            // 5244 * 64 * 191 / 100 is 641026; 641026 * 156 / 100 is 1000000.56
            Usewise x = one(1, 5244);
            reviews(x, 0, 100, 6);
            x.review(0, 91);
            same("1000000.56", x.review(0, 56), 1000000);
        });
        edge("4: or a payment would be above 1000000: far above", () ->
            refused("2000000", STATE, EdgesOfChanges::highest, x -> x.review(0, 100)));
        edge("4: or a payment would be above 1000000: the next one alone", () -> {
            Maker maker = () -> {
                Usewise x = highest();
                x.lengthen(0, 2, 5);
                x.pass(1);
                return x;
            };
            refused("the next", STATE, maker, x -> x.review(0, 1));
            Usewise y = maker.make();
            y.pass(1);
            same("past, it does not count", y.review(0, 100), 20);
        });
        edge("4: or a payment would be above 1000000: the last one alone", () -> {
            Maker maker = () -> {
                Usewise x = new Usewise();
                x.add(13, 8000, 0, 1000, 0, 120, 0);
                reviews(x, 0, 100, 6);
                return x;
            };
            same("the last", maker.make().payment(0, 12), 576000);
            same("both below", maker.make().review(0, 73), 12 * 885760 + 996480);
            refused("the last", STATE, maker, x -> x.review(0, 74));
            Usewise y = maker.make();
            y.shorten(0, 1);
            same("taken off, it does not count", y.review(0, 74), 12 * 890880);
        });
        edge("4: or a payment would be above 1000000: a lease that is at it may go down", () ->
            same("by 1 percent", highest().review(0, -1), 2 * 990000));
    }

    // ---- promise 5

    private static void lengthening() {
        edge("5: months: 1 to 36", () -> {
            for (int months : new int[] {0, 37, -1, -36, LOW, HIGH}) {
                refused("months of " + months, ARGUMENT, EdgesOfChanges::ordinary, x -> x.lengthen(0, months, 5));
            }
            for (int months : new int[] {1, 2, 35, 36}) {
                Usewise x = ordinary();
                same("months of " + months, x.lengthen(0, months, 5), 202 + 5 * months);
                same("to come", x.toCome(0), 2 + months);
            }
        });
        edge("5: payment: 0 to 10000: that of each of them", () -> {
            for (int payment : new int[] {-1, 10001, LOW, HIGH}) {
                refused("payment of " + payment, ARGUMENT, EdgesOfChanges::ordinary, x -> x.lengthen(0, 3, payment));
            }
            for (int payment : new int[] {0, 1, 9999, 10000}) {
                Usewise x = ordinary();
                same("payment of " + payment, x.lengthen(0, 3, payment), 202 + 3 * payment);
                same("the first of them", x.payment(0, 2), payment);
                same("the last of them", x.payment(0, 4), payment);
                fails("no more of them", INDEX, () -> x.payment(0, 5));
            }
        });
        edge("5: Puts months behind the last one", () -> {
            Usewise x = ordinary();
            x.lengthen(0, 1, 7);
            same("the next is as it was", x.payment(0, 0), 101);
            same("the last is as it was", x.payment(0, 1), 101);
            same("behind it", x.payment(0, 2), 7);
            same("paid is as it was", x.paid(0), 101);
        });
        edge("5: Puts months behind the last one: in its last month", () -> {
            Usewise x = one(1, 101);
            same("the debt", x.lengthen(0, 1, 7), 108);
            same("it is not over in one month", x.pass(1), 0);
            same("but in two", x.pass(1), 1);
        });
        edge("5: Puts months behind the last one: what was taken off stays off", () -> {
            Usewise x = one(5, 101);
            x.shorten(0, 4);
            same("the debt", x.lengthen(0, 4, 0), 101);
            same("behind it", x.payment(0, 1), 0);
            same("the last", x.payment(0, 4), 0);
        });
        edge("5: Returns the debt then, rounded as it is", () -> {
            Usewise x = new Usewise();
            x.add(1, 100, 0, 0, 20000, 2, 0);
            // 50 -> 50 (49.02); 150 -> 148 (147.06)
            same("answered", x.lengthen(0, 1, 50), 148);
            same("kept", x.debt(0), 148);
        });
    }

    /** A lease of so many months in all, of which so many are past. */
    private static Usewise months(int inAll, int past) {
        Usewise x = one(60, 10);
        int lacking = inAll - 60;
        while (lacking > 0) {
            x.lengthen(0, Math.min(36, lacking), 10);
            lacking -= 36;
        }
        for (int i = 0; i < past; i++) {
            x.pass(1);
        }
        return x;
    }

    private static void hundredAndTwentyMonths() {
        edge("5: or would have more than 120 months in all: 120", () -> {
            same("60 and 36 and 24", months(96, 0).lengthen(0, 24, 10), 1200);
            same("119 and 1", months(119, 0).lengthen(0, 1, 10), 1200);
            same("84 and 36", months(84, 0).lengthen(0, 36, 10), 1200);
            Usewise x = months(120, 0);
            same("to come", x.toCome(0), 120);
            same("the last", x.payment(0, 119), 10);
        });
        edge("5: or would have more than 120 months in all: 121", () -> {
            refused("96 and 25", STATE, () -> months(96, 0), x -> x.lengthen(0, 25, 10));
            refused("120 and 1", STATE, () -> months(120, 0), x -> x.lengthen(0, 1, 10));
            refused("120 and 1 of 0", STATE, () -> months(120, 0), x -> x.lengthen(0, 1, 0));
            refused("85 and 36", STATE, () -> months(85, 0), x -> x.lengthen(0, 36, 10));
            refused("120 and 36", STATE, () -> months(120, 0), x -> x.lengthen(0, 36, 10));
        });
        edge("5: 120 months in all: those that are past are among them", () -> {
            refused("all but one past", STATE, () -> months(120, 119), x -> x.lengthen(0, 1, 10));
            refused("96 and 25", STATE, () -> months(96, 95), x -> x.lengthen(0, 25, 10));
            same("96 and 24", months(96, 95).lengthen(0, 24, 10), 250);
        });
        edge("5: 120 months in all: those that were taken off are not", () -> {
            Maker maker = () -> {
                Usewise x = months(120, 50);
                x.shorten(0, 30);
                return x;
            };
            same("90 and 30", maker.make().lengthen(0, 30, 10), 700);
            refused("90 and 31", STATE, maker, x -> x.lengthen(0, 31, 10));
        });
    }

    // ---- promise 6

    private static void shortening() {
        edge("6: months: 1 to 60", () -> {
            for (int months : new int[] {0, 61, -1, -60, LOW, HIGH}) {
                refused("months of " + months, ARGUMENT, () -> months(90, 3), x -> x.shorten(0, months));
            }
            for (int months : new int[] {1, 2, 59, 60}) {
                Usewise x = months(90, 0);
                same("months of " + months, x.shorten(0, months), 0);
                same("to come", x.toCome(0), 90 - months);
                same("the debt", x.debt(0), 900 - 10 * months);
                same("the right", x.right(0), 900 - 10 * months);
            }
        });
        edge("6: Takes months off the end", () -> {
            Usewise x = new Usewise();
            x.add(14, 100, 1, 10, 0, 120, 0);
            x.pass(1);
            x.shorten(0, 1);
            same("the first is as it was", x.payment(0, 0), 100);
            same("the last that is left", x.payment(0, 11), 110);
            fails("it is off", INDEX, () -> x.payment(0, 12));
            x.shorten(0, 1);
            same("the last that is left", x.payment(0, 10), 100);
            same("all go by", x.pass(11), 1);
            same("paid", x.paid(0), 1100);
        });
        edge("6: right * (months then) / (months before), rounded down", () -> {
            int[] rights = {0, 1, 2, 3, 4, 5, 6};
            int[] due = {0, 0, 1, 2, 2, 3, 4};
            for (int i = 0; i < rights.length; i++) {
                Usewise x = new Usewise();
                x.add(3, 1, 12, 0, 0, 120, rights[i]);
                same("the gain", x.shorten(0, 1), due[i] - rights[i]);
                same("a right of " + rights[i] + " * 2 / 3", x.right(0), due[i]);
            }
        });
        edge("6: months to come: those that are past do not count", () -> {
            Usewise x = new Usewise();
            x.add(12, 1, 12, 0, 0, 12, 9600);
            x.pass(6);
            same("right", x.right(0), 4800);
            x.shorten(0, 2);
            same("* 4 / 6", x.right(0), 3200);
        });
        edge("6: a right and months as great as they can be", () -> {
            Usewise x = one(60, 10000);
            x.lengthen(0, 36, 10000);
            x.lengthen(0, 24, 10000);
            toTheMost(x, 0);
            same("the gain", x.shorten(0, 1), 0);
            same("the right", x.right(0), 119000000);
        });
        edge("6: Returns the gain, of the debt as it is rounded", () -> {
            Usewise x = new Usewise();
            x.add(2, 100, 0, 0, 20000, 2, 0);
            // 100 -> 99 (98.04); 199 -> 196 (195.1); the debt is 97 less, the right 98
            same("answered", x.shorten(0, 1), 97 - 98);
            same("the debt", x.debt(0), 99);
            same("the right", x.right(0), 98);
            same("kept", x.gains(0), -1);
        });
    }

    private static void noMonthLeft() {
        edge("6: if no month would be left to come: one is left", () -> {
            Usewise x = one(60, 10);
            same("59 of 60", x.shorten(0, 59), 0);
            same("left", x.toCome(0), 1);
            same("the first one", x.payment(0, 0), 10);
            Usewise y = one(2, 10);
            y.shorten(0, 1);
            same("1 of 2", y.toCome(0), 1);
            same("60 of 61", months(61, 0).shorten(0, 60), 0);
            same("60 of 61 and 10 that are past", months(71, 10).shorten(0, 60), 0);
        });
        edge("6: if no month would be left to come: none is", () -> {
            refused("60 of 60", STATE, () -> one(60, 10), x -> x.shorten(0, 60));
            refused("1 of 1", STATE, () -> one(1, 10), x -> x.shorten(0, 1));
            refused("2 of 2", STATE, EdgesOfChanges::ordinary, x -> x.shorten(0, 2));
            refused("60 of 60 and 10 that are past", STATE, () -> months(70, 10), x -> x.shorten(0, 60));
        });
        edge("6: if no month would be left to come: fewer than none", () -> {
            refused("2 of 1", STATE, () -> one(1, 10), x -> x.shorten(0, 2));
            refused("3 of 2, and one that is past", STATE, EdgesOfChanges::ordinary, x -> x.shorten(0, 3));
            refused("60 of 1", STATE, () -> one(1, 10), x -> x.shorten(0, 60));
            refused("1 of a lease that is over", STATE, EdgesOfChanges::over, x -> x.shorten(0, 1));
            refused("60 of a lease that is over", STATE, EdgesOfChanges::over, x -> x.shorten(0, 60));
        });
    }

    // ---- promise 7

    private static Usewise cut(int payment, int costs, int percent) {
        Usewise x = new Usewise();
        x.add(1, payment, 0, 0, 0, 120, costs);
        x.cut(0, percent);
        return x;
    }

    private static void cutting() {
        edge("7: percent: 1 to 99", () -> {
            for (int percent : new int[] {0, 100, -1, 101, LOW, HIGH}) {
                refused("percent of " + percent, ARGUMENT, EdgesOfChanges::ordinary, x -> x.cut(0, percent));
            }
            same("1", cut(1000, 0, 1).debt(0), 990);
            same("2", cut(1000, 0, 2).debt(0), 980);
            same("98", cut(1000, 0, 98).debt(0), 20);
            same("99", cut(1000, 0, 99).debt(0), 10);
        });
        edge("7: each payment that is to come, rounded down", () -> {
            same("0.99", cut(1, 0, 1).payment(0, 0), 0);
            same("1.98", cut(2, 0, 1).payment(0, 0), 1);
            same("0.99 of 99", cut(99, 0, 99).payment(0, 0), 0);
            same("1 of 100", cut(100, 0, 99).payment(0, 0), 1);
            same("1.99 of 199", cut(199, 0, 99).payment(0, 0), 1);
        });
        edge("7: and the right, rounded down", () -> {
            same("0.99", cut(1, 0, 1).right(0), 0);
            same("98.01", cut(99, 0, 1).right(0), 98);
            same("99", cut(99, 1, 1).right(0), 99);
            same("1.99", cut(99, 100, 99).right(0), 1);
            same("2", cut(99, 101, 99).right(0), 2);
            Usewise x = one(2, 5);
            x.cut(0, 1);
            // payments of 4 (4.95), and a right of 9 (9.9)
            same("the debt", x.debt(0), 8);
            same("the right is rounded as a whole", x.right(0), 9);
        });
        edge("7: each payment that is to come: the first and the last", () -> {
            Usewise x = new Usewise();
            x.add(14, 100, 1, 10, 0, 120, 0);
            x.pass(2);
            x.cut(0, 50);
            same("the first", x.payment(0, 0), 50);
            same("the last", x.payment(0, 11), 55);
            same("months stay", x.toCome(0), 12);
            same("what is past is not", x.paid(0), 100);
        });
        edge("7: a right of 0, and payments of 0", () -> {
            Usewise x = new Usewise();
            x.add(2, 100, 12, 0, 0, 120, 0);
            same("the gain", x.cut(0, 50), 0);
            same("the right", x.right(0), 0);
        });
        edge("7: a right as great as it can be", () -> {
            Usewise x = one(60, 10000);
            x.lengthen(0, 36, 10000);
            x.lengthen(0, 24, 10000);
            toTheMost(x, 0);
            same("the gain", x.cut(0, 1), 0);
            same("the right", x.right(0), 118800000);
            same("the debt", x.debt(0), 118800000);
        });
        edge("7: Returns the gain, of the debt as it is rounded", () -> {
            Usewise x = new Usewise();
            x.add(2, 100, 0, 0, 20000, 2, 0);
            // from 196: 50 -> 50 (49.02); 100 -> 99 (98.04); the right is 98
            same("answered", x.cut(0, 50), (196 - 99) - (196 - 98));
            same("the debt", x.debt(0), 99);
            same("kept", x.gains(0), -1);
        });
    }

    // ---- promises 4 to 7

    private static Usewise lastMonth() {
        Usewise x = one(24, 100);
        x.pass(23);
        return x;
    }

    private static Usewise justOver() {
        Usewise x = one(24, 100);
        x.pass(24);
        return x;
    }

    private static void overLeases() {
        edge("4: if it is over", () -> {
            same("in its last month it is not", lastMonth().review(0, 10), 110);
            refused("it is", STATE, EdgesOfChanges::justOver, x -> x.review(0, 10));
            refused("nor is nothing changed", STATE, EdgesOfChanges::justOver, x -> x.review(0, 0));
        });
        edge("5: if it is over", () -> {
            same("in its last month it is not", lastMonth().lengthen(0, 1, 10), 110);
            refused("it is", STATE, EdgesOfChanges::justOver, x -> x.lengthen(0, 1, 10));
            refused("behind 120 months", STATE, () -> months(120, 120), x -> x.lengthen(0, 1, 10));
        });
        edge("7: if it is over", () -> {
            same("in its last month it is not", lastMonth().cut(0, 10), 0);
            refused("it is", STATE, EdgesOfChanges::justOver, x -> x.cut(0, 10));
        });
        edge("4 to 7: what is told of one lease changes no other", () -> {
            Usewise x = new Usewise();
            for (int i = 0; i < 6; i++) {
                add(x, 10, 100);
            }
            x.review(0, 10);
            x.lengthen(1, 1, 10);
            x.shorten(4, 1);
            x.cut(5, 10);
            int[] debts = {1100, 1010, 1000, 1000, 900, 900};
            for (int i = 0; i < 6; i++) {
                same("the debt of " + i, x.debt(i), debts[i]);
                same("the right of " + i, x.right(i), debts[i]);
            }
        });
    }
}
