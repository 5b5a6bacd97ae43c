/** Promises 8 to 16: each sentence that names a boundary case, with its test. */
public final class EdgesOfReadings extends Checks {
    public static void main(String[] args) {
        edge("8: toCome, at its least and at its most", EdgesOfReadings::monthsToCome);
        payments();
        debts();
        rights();
        interests();
        writtenOff();
        paidSums();
        gains();
        edge("8 to 16: to ask changes nothing", EdgesOfReadings::askingChangesNothing);
        edge("8 to 16: each lease answers for itself", EdgesOfReadings::eachForItself);
        end();
    }

    /** Six leases with payments of 10, 20, .. 60, and 2, 3, .. 7 months. */
    private static Usewise six() {
        Usewise x = new Usewise();
        for (int i = 0; i < 6; i++) {
            x.add(2 + i, 10 + 10 * i, 0, 0, 0, 120, i);
        }
        return x;
    }

    /** 120 months in all, with payments of 1000000, at no rate. */
    private static Usewise greatest() {
        Usewise x = one(60, 10000);
        x.lengthen(0, 36, 10000);
        x.lengthen(0, 24, 10000);
        toTheMost(x, 0);
        return x;
    }

    private static void monthsToCome() {
        same("the least term", one(1, 1).toCome(0), 1);
        same("the greatest term", one(60, 1).toCome(0), 60);
        same("the most months", greatest().toCome(0), 120);
        Usewise x = one(2, 1);
        x.pass(1);
        same("one month", x.toCome(0), 1);
        x.pass(1);
        same("over", x.toCome(0), 0);
        x.pass(24);
        same("long over", x.toCome(0), 0);
    }

    // ---- promise 9

    private static void payments() {
        edge("9: months: 0 for that of the next month", () -> {
            Usewise x = new Usewise();
            x.add(14, 100, 1, 10, 0, 120, 0);
            same("the first month", x.payment(0, 0), 0);
            x.pass(1);
            same("the second", x.payment(0, 0), 100);
            x.pass(11);
            same("the 13th", x.payment(0, 0), 110);
        });
        edge("9: or not so many months are to come: the last one", () -> {
            same("of 1", one(1, 7).payment(0, 0), 7);
            same("of 60", one(60, 7).payment(0, 59), 7);
            same("of 120", greatest().payment(0, 119), 1000000);
        });
        edge("9: or not so many months are to come: one behind the last", () -> {
            refused("of 1", INDEX, () -> one(1, 7), x -> x.payment(0, 1));
            refused("of 60", INDEX, () -> one(60, 7), x -> x.payment(0, 60));
            refused("of 120", INDEX, EdgesOfReadings::greatest, x -> x.payment(0, 120));
        });
        edge("9: or not so many months are to come: far behind the last", () -> {
            for (int months : new int[] {61, 119, 120, 121, 1000000, HIGH}) {
                refused("months of " + months, INDEX, () -> one(60, 7), x -> x.payment(0, months));
            }
        });
        edge("9: or not so many months are to come: below 0", () -> {
            for (int months : new int[] {-1, -2, -60, -1000000, LOW}) {
                refused("months of " + months, INDEX, () -> {
                    Usewise x = one(60, 7);
                    x.pass(3);
                    return x;
                }, x -> x.payment(0, months));
            }
        });
        edge("9: or not so many months are to come: some are past", () -> {
            Usewise x = one(60, 7);
            x.pass(24);
            same("the last", x.payment(0, 35), 7);
            fails("behind it", INDEX, () -> x.payment(0, 36));
            fails("the index and the past months, together, in no int", INDEX, () -> x.payment(0, HIGH));
        });
        edge("9: or not so many months are to come: it is over", () -> {
            Usewise x = one(2, 7);
            x.pass(2);
            fails("the next", INDEX, () -> x.payment(0, 0));
            fails("a past one", INDEX, () -> x.payment(0, -1));
        });
        edge("9: or not so many months are to come: put behind and taken off", () -> {
            Usewise x = one(2, 7);
            x.lengthen(0, 1, 9);
            same("put behind", x.payment(0, 2), 9);
            fails("behind that", INDEX, () -> x.payment(0, 3));
            x.shorten(0, 2);
            same("left", x.payment(0, 0), 7);
            fails("taken off", INDEX, () -> x.payment(0, 1));
        });
    }

    // ---- promises 10 and 11

    private static void debts() {
        edge("10: debt, at its least and at its most", () -> {
            Usewise x = new Usewise();
            x.add(1, 1, 12, 0, 20000, 1, 0);
            same("free months alone", x.debt(0), 0);
            same("120 months of 1000000", greatest().debt(0), 120000000);
            same("by worth", greatest().debtByWorth(0), 120000000);
        });
        edge("10: as it is kept month by month, to its end", () -> {
            Usewise x = new Usewise();
            x.add(4, 100, 1, 0, 10000, 10, 7);
            // 100 -> 100 (99.01); 200 -> 199 (198.02); 299 -> 297 (296.04); 297 -> 295 (294.06)
            int[] due = {295, 297, 199, 100, 0, 0};
            for (int month = 0; month < due.length; month++) {
                same("in month " + month, x.debt(0), due[month]);
                same("in month " + month + ", by worth", x.debtByWorth(0), due[month]);
                x.pass(1);
            }
        });
        edge("11: the same, at each rate", () -> {
            for (int rate : new int[] {0, 1, 111, 9999, 19999, 20000}) {
                Usewise x = new Usewise();
                x.add(60, 9876, 7, 543, rate, 33, 21);
                for (int month = 0; month <= 60; month++) {
                    same("rate " + rate + " in month " + month, x.debtByWorth(0), x.debt(0));
                    x.pass(1);
                }
                same("over", x.debtByWorth(0), 0);
            }
        });
        edge("11: the same, behind each change", () -> {
            Usewise x = new Usewise();
            x.add(20, 777, 2, 33, 7654, 9, 21);
            x.pass(4);
            same("review", x.review(0, -33), x.debtByWorth(0));
            same("lengthen", x.lengthen(0, 5, 321), x.debtByWorth(0));
            x.shorten(0, 2);
            same("shorten", x.debt(0), x.debtByWorth(0));
            x.cut(0, 17);
            same("cut", x.debt(0), x.debtByWorth(0));
            x.pass(1);
            same("pass", x.debt(0), x.debtByWorth(0));
            yes("it is not over", x.debt(0) > 0);
        });
        edge("11: the worth is found at its own rate, whatever rateFor() was asked", () -> {
            Usewise x = new Usewise();
            x.add(2, 100, 0, 0, 20000, 2, 0);
            x.rateFor(0, 200);
            same("by worth", x.debtByWorth(0), 196);
            same("the debt", x.debt(0), 196);
        });
    }

    // ---- promises 12 to 16

    private static void rights() {
        edge("12: right, at its least and at its most", () -> {
            same("the most", greatest().right(0), 120000000);
            Usewise x = new Usewise();
            x.add(1, 1, 12, 0, 0, 1, 0);
            same("no debt, no costs", x.right(0), 0);
        });
        edge("12: right, 0 when it is over", () -> {
            for (int life : new int[] {1, 2, 3, 120}) {
                Usewise x = new Usewise();
                x.add(3, 1000, 0, 0, 9999, life, 1234);
                x.pass(3);
                same("life of " + life, x.right(0), 0);
            }
        });
    }

    private static void interests() {
        edge("13: all interest so far: none yet", () -> {
            Usewise x = new Usewise();
            x.add(3, 1000, 0, 0, 20000, 3, 0);
            same("a new lease", x.interest(0), 0);
        });
        edge("13: all interest so far: of its last month, and no more", () -> {
            Usewise x = new Usewise();
            x.add(2, 10000, 0, 0, 20000, 3, 0);
            x.pass(1);
            same("the first month", x.interest(0), 388);
            x.pass(1);
            same("the last", x.interest(0), 388 + 196);
            x.pass(1);
            same("over", x.interest(0), 584);
        });
        edge("13: all interest is what is paid and is no debt at its beginning", () -> {
            Usewise x = new Usewise();
            x.add(60, 9876, 5, 432, 12345, 60, 0);
            int debt = x.debt(0);
            passes(x, 3);
            same("interest", x.interest(0), x.paid(0) - debt);
        });
    }

    private static void writtenOff() {
        edge("14: all that was written off so far: none yet", () ->
            same("a new lease", one(1, 10000).written(0), 0));
        edge("14: all that was written off so far: the right and the costs, all of it", () -> {
            Usewise x = new Usewise();
            x.add(7, 1000, 0, 0, 0, 4, 10000);
            x.pass(24);
            same("over", x.written(0), 17000);
            x.pass(24);
            same("and no more", x.written(0), 17000);
        });
        edge("14: all that was written off so far: the greatest right, all at once", () -> {
            Usewise x = new Usewise();
            x.add(60, 10000, 0, 0, 0, 1, 0);
            x.lengthen(0, 36, 10000);
            x.lengthen(0, 24, 10000);
            toTheMost(x, 0);
            x.pass(1);
            same("120 payments of 1000000", x.written(0), 120000000);
            same("no right is left", x.right(0), 0);
        });
        edge("14: what is given up or taken off the right is not written off", () -> {
            Usewise x = one(4, 100);
            x.cut(0, 50);
            x.shorten(0, 1);
            x.review(0, -50);
            same("written", x.written(0), 0);
        });
    }

    private static void paidSums() {
        edge("15: all that was paid so far: none yet, the costs not included", () -> {
            Usewise x = new Usewise();
            x.add(1, 1, 0, 0, 0, 1, 10000);
            same("a new lease", x.paid(0), 0);
            x.pass(1);
            same("its payment alone", x.paid(0), 1);
        });
        edge("15: all that was paid so far: free months", () -> {
            Usewise x = new Usewise();
            x.add(13, 100, 12, 0, 0, 1, 0);
            x.pass(12);
            same("12 free months", x.paid(0), 0);
            x.pass(1);
            same("the 13th", x.paid(0), 100);
        });
        edge("15: all that was paid so far: the most", () -> {
            Usewise x = greatest();
            same("over", passes(x, 5), 1);
            same("paid", x.paid(0), 120000000);
        });
        edge("15: all that was paid so far: payments as they were when they were paid", () -> {
            Usewise x = one(3, 100);
            x.pass(1);
            x.review(0, 50);
            x.pass(1);
            x.cut(0, 50);
            x.pass(1);
            same("paid", x.paid(0), 100 + 150 + 75);
        });
    }

    private static void gains() {
        edge("16: the sum of all gains so far: none yet", () -> {
            Usewise x = new Usewise();
            x.add(3, 100, 0, 0, 9999, 1, 500);
            same("a new lease", x.gains(0), 0);
            x.pass(2);
            same("months are no gain", x.gains(0), 0);
            x.review(0, 100);
            same("nor is more debt", x.gains(0), 0);
        });
        edge("16: the sum of all gains so far: of those above and below 0", () -> {
            Usewise x = new Usewise();
            x.add(2, 100, 0, 0, 0, 1, 0);
            x.lengthen(0, 2, 0);
            // a right of 200 of 4 months; without the months of 0 it is 100
            same("below 0", x.shorten(0, 2), -100);
            x.pass(1);
            same("above 0", x.cut(0, 40), 40);
            same("the sum", x.gains(0), -60);
            x.review(0, -50);
            same("with what was lacking", x.gains(0), -30);
            x.pass(24);
            same("over", x.gains(0), -30);
        });
    }

    // ---- all of them

    private static void askingChangesNothing() {
        Usewise x = six();
        x.pass(1);
        String before = stateOf(x);
        for (int i = 0; i < 6; i++) {
            x.rateFor(i, 5);
            x.saleGain(i, 5, 500);
        }
        text("asked once", stateOf(x), before);
        text("asked again", stateOf(x), before);
    }

    private static void eachForItself() {
        Usewise x = six();
        for (int i = 0; i < 6; i++) {
            int debt = (2 + i) * (10 + 10 * i);
            same("months of " + i, x.toCome(i), 2 + i);
            same("payment of " + i, x.payment(i, 1 + i), 10 + 10 * i);
            same("debt of " + i, x.debt(i), debt);
            same("worth of " + i, x.debtByWorth(i), debt);
            same("right of " + i, x.right(i), debt + i);
        }
        x.pass(1);
        for (int i = 0; i < 6; i++) {
            int right = (2 + i) * (10 + 10 * i) + i;
            same("paid of " + i, x.paid(i), 10 + 10 * i);
            same("written of " + i, x.written(i), right / (2 + i));
            same("interest of " + i, x.interest(i), 0);
        }
    }
}
