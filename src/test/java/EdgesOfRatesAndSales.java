/** Promises 17 and 18: each sentence that names a boundary case, with its test. */
public final class EdgesOfRatesAndSales extends Checks {
    public static void main(String[] args) {
        values();
        leastRates();
        booksAndPrices();
        saleGains();
        end();
    }

    /** A lease with so many payments of 1000000 at no rate. */
    private static Usewise millions(int months) {
        Usewise x = one(months, 10000);
        toTheMost(x, 0);
        return x;
    }

    private static Usewise over() {
        Usewise x = one(1, 10000);
        x.pass(1);
        return x;
    }

    // ---- promise 17

    private static void values() {
        edge("17: value: 0 to 10000000", () -> {
            for (int value : new int[] {-1, 10000001, LOW, HIGH}) {
                refused("value of " + value, ARGUMENT, () -> one(3, 10), x -> x.rateFor(0, value));
                refused("value of " + value + ", over", ARGUMENT, EdgesOfRatesAndSales::over, x -> x.rateFor(0, value));
            }
            same("0", one(3, 10).rateFor(0, 0), Usewise.NONE);
            same("1", one(1, 1).rateFor(0, 1), 0);
            same("9999999", one(3, 10).rateFor(0, 9999999), 0);
            same("10000000", one(3, 10).rateFor(0, 10000000), 0);
        });
        edge("17: worth as much as the greatest value, and 1 more", () -> {
            Usewise x = millions(10);
            same("10000000", x.rateFor(0, 10000000), 0);
            x.lengthen(0, 1, 1);
            same("10000001", x.rateFor(0, 10000000), 1);
        });
        edge("17: worth far more than any value", () -> {
            Usewise x = one(60, 10000);
            x.lengthen(0, 36, 10000);
            x.lengthen(0, 24, 10000);
            toTheMost(x, 0);
            same("at its debt of 120000000", x.rateFor(0, 10000000), Usewise.NONE);
        });
    }

    private static void leastRates() {
        edge("17: the least rate: 0", () -> {
            same("worth no more than itself", one(3, 1000).rateFor(0, 3000), 0);
            same("worth less", one(3, 1000).rateFor(0, 3001), 0);
        });
        edge("17: the least rate: 1", () -> {
            // 1000000 -> 1000000 (999999.000001); 2000000 -> 1999999 (1999998.000002)
            same("1 less than the payments", millions(2).rateFor(0, 1999999), 1);
            yes("2 less than the payments", millions(2).rateFor(0, 1999998) > 1);
        });
        edge("17: the least rate: 19999, 20000 and none", () -> {
            // at 19998: 980394.08, at 19999: 980393.12, at 20000: 980392.16
            same("19998", millions(1).rateFor(0, 980395), 19998);
            same("19999", millions(1).rateFor(0, 980394), 19999);
            same("20000", millions(1).rateFor(0, 980393), 20000);
            same("none", millions(1).rateFor(0, 980392), Usewise.NONE);
        });
        edge("17: no more than a value: where the worth at 20000 is exact", () -> {
            same("100", one(1, 102).rateFor(0, 100), 20000);
            same("99", one(1, 102).rateFor(0, 99), Usewise.NONE);
        });
        edge("17: found by halving: the worth at the rate below is more", () -> {
            Usewise x = new Usewise();
            x.add(60, 5000, 6, 500, 4321, 60, 0);
            int debt = x.debt(0);
            int worthOfMost = worthAt(20000);
            for (int part = 0; part <= 20; part++) {
                int value = worthOfMost + (debt - worthOfMost) / 20 * part;
                int rate = x.rateFor(0, value);
                yes("the rate " + rate + " will do for " + value, worthAt(rate) <= value);
                yes("and none below it", rate == 0 || worthAt(rate - 1) > value);
            }
            yes("its own rate will do for its debt", x.rateFor(0, debt) <= 4321);
            same("the greatest worth", x.rateFor(0, worthAt(0)), 0);
            same("less than the least worth", x.rateFor(0, worthOfMost - 1), Usewise.NONE);
        });
        edge("17: the payments that are to come: those that are past do not count", () -> {
            Usewise x = one(3, 1000);
            x.pass(2);
            same("the last", x.rateFor(0, 1000), 0);
            // 1000 * 1000000 / 999 is 1001001.001
            same("1 less", x.rateFor(0, 999), 1002);
        });
        edge("17: the payments that are to come: none, when it is over", () -> {
            same("0", over().rateFor(0, 0), 0);
            same("10000000", over().rateFor(0, 10000000), 0);
        });
        edge("17: the payments that are to come: free months are worth nothing", () -> {
            Usewise x = new Usewise();
            x.add(3, 1000, 12, 0, 20000, 3, 0);
            same("0", x.rateFor(0, 0), 0);
        });
        edge("17: the payments that are to come: one of 1 is worth 1 at any rate", () -> {
            same("1", one(1, 1).rateFor(0, 1), 0);
            same("0", one(1, 1).rateFor(0, 0), Usewise.NONE);
        });
    }

    private static int worthAt(int rate) {
        Usewise x = new Usewise();
        x.add(60, 5000, 6, 500, rate, 60, 0);
        return x.debt(0);
    }

    // ---- promise 18

    private static void booksAndPrices() {
        edge("18: book: 0 to 10000000", () -> {
            for (int book : new int[] {-1, 10000001, LOW, HIGH}) {
                refused("book of " + book, ARGUMENT, () -> one(3, 10), x -> x.saleGain(0, book, 100));
                refused("book of " + book + ", over", ARGUMENT, EdgesOfRatesAndSales::over,
                        x -> x.saleGain(0, book, 100));
            }
            same("0", over().saleGain(0, 0, 100), 100);
            same("1", over().saleGain(0, 1, 100), 99);
            same("9999999", over().saleGain(0, 9999999, 100), -9999899);
            same("10000000", over().saleGain(0, 10000000, 100), -9999900);
        });
        edge("18: price: 1 to 10000000", () -> {
            for (int price : new int[] {0, -1, 10000001, LOW, HIGH}) {
                refused("price of " + price, ARGUMENT, () -> one(3, 10), x -> x.saleGain(0, 5, price));
                refused("price of " + price + ", over", ARGUMENT, EdgesOfRatesAndSales::over,
                        x -> x.saleGain(0, 5, price));
            }
            same("1", over().saleGain(0, 0, 1), 1);
            same("2", over().saleGain(0, 0, 2), 2);
            same("9999999", over().saleGain(0, 0, 9999999), 9999999);
            same("10000000", over().saleGain(0, 0, 10000000), 10000000);
        });
        edge("18: book and price out of range", () ->
            refused("both", ARGUMENT, () -> one(3, 10), x -> x.saleGain(0, -1, 0)));
        edge("18: both at their ends, with a debt", () -> {
            Usewise x = one(1, 10000);
            same("the greatest gain", x.saleGain(0, 0, 10000000), 9990000);
            same("none", x.saleGain(0, 10000000, 10000000), 0);
            // -9989999 * 1 / 10001 is -998.9
            same("the greatest loss for its part", x.saleGain(0, 10000000, 10001), -998);
        });
    }

    private static void saleGains() {
        edge("18: 0 if the debt is the price", () -> {
            same("without a book value", one(3, 100).saleGain(0, 0, 300), 0);
            same("a loss", one(3, 100).saleGain(0, 10000000, 300), 0);
        });
        edge("18: 0 if the debt is the price or more: 1 more", () -> {
            // -9999701 * -1 / 299 would be 33443
            same("a loss", one(3, 100).saleGain(0, 10000000, 299), 0);
            same("a gain", one(3, 1000).saleGain(0, 0, 2999), 0);
        });
        edge("18: 0 if the debt is the price or more: far more", () -> {
            Usewise x = millions(60);
            same("a gain", x.saleGain(0, 0, 10000000), 0);
            same("a loss", x.saleGain(0, 10000000, 1), 0);
            same("60000000 is more than any price", x.saleGain(0, 10000000, 9999999), 0);
        });
        edge("18: 0 if the debt is the price or more: 1 less", () -> {
            same("a gain", one(3, 100).saleGain(0, 0, 301), 1);
            // -9999699 * 1 / 301 is -33221.6
            same("a loss", one(3, 100).saleGain(0, 10000000, 301), -33221);
        });
        edge("18: the price is the book value", () ->
            same("no gain", one(3, 100).saleGain(0, 5000, 5000), 0));
        edge("18: rounded towards 0: a gain", () -> {
            // of 300 of 400: a fourth
            same("4 / 4", one(3, 100).saleGain(0, 396, 400), 1);
            same("3 / 4", one(3, 100).saleGain(0, 397, 400), 0);
            same("7 / 4", one(3, 100).saleGain(0, 393, 400), 1);
        });
        edge("18: rounded towards 0: a loss", () -> {
            same("-4 / 4", one(3, 100).saleGain(0, 404, 400), -1);
            same("-3 / 4", one(3, 100).saleGain(0, 403, 400), 0);
            same("-7 / 4", one(3, 100).saleGain(0, 407, 400), -1);
            same("-8 / 4", one(3, 100).saleGain(0, 408, 400), -2);
        });
        edge("18: the debt as it is then", () -> {
            Usewise x = one(3, 100);
            x.pass(1);
            same("of 200 of 400", x.saleGain(0, 0, 400), 200);
            x.pass(2);
            same("over", x.saleGain(0, 0, 400), 400);
        });
        edge("18: the price less the debt: the debt, and not the right", () -> {
            Usewise x = new Usewise();
            x.add(4, 100, 0, 0, 0, 1, 10000);
            same("a right far above the debt", x.saleGain(0, 0, 1000), 600);
            x.pass(1);
            same("a right of 0", x.saleGain(0, 0, 1000), 700);
        });
        edge("18: the price less the debt: the debt, and not the sum of the payments", () -> {
            Usewise x = new Usewise();
            x.add(3, 100, 0, 0, 10000, 3, 0);
            same("a debt of 297", x.saleGain(0, 0, 298), 1);
            same("the half of it", x.saleGain(0, 0, 594), 297);
        });
    }
}
