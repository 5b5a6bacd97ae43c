/** Promises 1 to 3: each sentence that names a boundary case, with its test. */
public final class EdgesOfLeases extends Checks {
    private static final int[] ORDINARY = {13, 100, 2, 5, 1000, 24, 50};

    public static void main(String[] args) {
        edge("1: Begins without leases", EdgesOfLeases::beginsWithoutLeases);
        ranges();
        payments();
        edge("2: Returns its number", EdgesOfLeases::returnsItsNumber);
        edge("2: if there are 6", EdgesOfLeases::ifThereAreSix);
        monthsToPass();
        leasesThatAreOver();
        end();
    }

    // ---- promise 1

    private static void beginsWithoutLeases() {
        for (int lease : new int[] {LOW, -1, 0, 1, 5, 6, HIGH}) {
            Usewise x = new Usewise();
            fails("toCome " + lease, INDEX, () -> x.toCome(lease));
            fails("debt " + lease, INDEX, () -> x.debt(lease));
            fails("review " + lease, INDEX, () -> x.review(lease, 0));
        }
        Usewise y = new Usewise();
        same("no lease becomes over", y.pass(24), 0);
        same("the first number", add(y, 1, 1), 0);
        same("months that passed before it do not count", y.toCome(0), 1);
        fails("an object has its own leases", INDEX, () -> new Usewise().debt(0));
    }

    // ---- promise 2

    private static void ranges() {
        edge("2: term: 1 to 60 months", () -> range(0, 1, 60));
        edge("2: payment: 1 to 10000", () -> range(1, 1, 10000));
        edge("2: free: 0 to 12", () -> range(2, 0, 12));
        edge("2: step: 0 to 1000", () -> range(3, 0, 1000));
        edge("2: rate: 0 to 20000 millionths", () -> range(4, 0, 20000));
        edge("2: life: 1 to 120 months", () -> range(5, 1, 120));
        edge("2: costs: 0 to 10000", () -> range(6, 0, 10000));
        edge("2: all at their least, and all at their most", () -> {
            Usewise x = new Usewise();
            same("the least", x.add(1, 1, 0, 0, 0, 1, 0), 0);
            same("its debt", x.debt(0), 1);
            same("its right", x.right(0), 1);
            same("the most", x.add(60, 10000, 12, 1000, 20000, 120, 10000), 1);
            same("its debt is its right less the costs", x.debt(1), x.right(1) - 10000);
            same("its first payment", x.payment(1, 12), 11000);
            same("its last payment", x.payment(1, 59), 14000);
        });
        edge("2: if more than one is out of range", () ->
            refused("all", ARGUMENT, Usewise::new, x -> x.add(0, 0, -1, -1, -1, 0, -1)));
    }

    private static void range(int place, int least, int most) {
        for (int value : new int[] {least - 1, most + 1, LOW, HIGH}) {
            int[] given = with(place, value);
            refused("a first one of " + value, ARGUMENT, Usewise::new, x -> add(x, given));
            refused("a second one of " + value, ARGUMENT, () -> one(3, 10), x -> add(x, given));
        }
        for (int value : new int[] {least, least + 1, most - 1, most}) {
            Usewise x = one(3, 10);
            same("one of " + value, add(x, with(place, value)), 1);
            holds(x, with(place, value));
        }
    }

    private static int[] with(int place, int value) {
        int[] given = ORDINARY.clone();
        given[place] = value;
        return given;
    }

    /** The last payment and the first month's write-off tell that each argument was taken as it is. */
    private static void holds(Usewise x, int[] a) {
        int last = a[0] - 1;
        same("term", x.toCome(1), a[0]);
        same("the last payment", x.payment(1, last), last < a[2] ? 0 : a[1] + a[3] * (last / 12));
        same("costs", x.right(1), x.debt(1) + a[6]);
        same("rate", x.debt(1), worth(a));
        int right = x.right(1);
        x.pass(1);
        same("life", x.written(1), right / Math.min(a[0], a[5]));
    }

    private static long worth(int[] a) {
        long worth = 0;
        for (int k = a[0] - 1; k >= 0; k--) {
            long payment = k < a[2] ? 0 : a[1] + a[3] * (k / 12);
            worth = -Math.floorDiv(-(worth + payment) * 1000000, 1000000L + a[4]);
        }
        return worth;
    }

    private static Usewise of(int term, int payment, int free, int step) {
        Usewise x = new Usewise();
        x.add(term, payment, free, step, 0, 120, 0);
        return x;
    }

    private static void payments() {
        edge("2: 0 for the free months at its beginning: none", () -> {
            same("the first month", of(2, 100, 0, 0).payment(0, 0), 100);
        });
        edge("2: 0 for the free months at its beginning: one", () -> {
            Usewise x = of(2, 100, 1, 0);
            same("the first month", x.payment(0, 0), 0);
            same("the second", x.payment(0, 1), 100);
        });
        edge("2: 0 for the free months at its beginning: 12", () -> {
            Usewise x = of(13, 100, 12, 7);
            same("the 12th", x.payment(0, 11), 0);
            same("the 13th", x.payment(0, 12), 107);
        });
        edge("2: 0 for the free months: all but one of its term, all, and more", () -> {
            same("all but one", of(5, 100, 4, 0).debt(0), 100);
            same("all", of(5, 100, 5, 0).debt(0), 0);
            same("one more", of(5, 100, 6, 0).debt(0), 0);
            same("months all the same", of(5, 100, 6, 0).toCome(0), 5);
            Usewise x = of(1, 100, 12, 1000);
            same("far more", x.debt(0), 0);
            x.lengthen(0, 12, 9);
            same("months put behind are not free", x.debt(0), 108);
        });
        edge("2: the step times (k / 12, rounded down)", () -> {
            Usewise x = of(60, 100, 0, 7);
            int[] months = {0, 11, 12, 23, 24, 35, 36, 47, 48, 59};
            int[] due = {100, 100, 107, 107, 114, 114, 121, 121, 128, 128};
            for (int i = 0; i < months.length; i++) {
                same("month " + months[i], x.payment(0, months[i]), due[i]);
            }
        });
        edge("2: k from 0: the steps are not put off by free months", () -> {
            Usewise x = of(60, 100, 11, 7);
            same("month 11", x.payment(0, 11), 100);
            same("month 12", x.payment(0, 12), 107);
            same("month 24", x.payment(0, 24), 114);
        });
        edge("2: a step of 0", () -> {
            same("the last", of(60, 100, 0, 0).payment(0, 59), 100);
        });
    }

    private static Usewise six() {
        Usewise x = new Usewise();
        for (int i = 0; i < 6; i++) {
            add(x, 2 + i, 10);
        }
        return x;
    }

    private static void returnsItsNumber() {
        Usewise x = new Usewise();
        for (int i = 0; i < 6; i++) {
            same("number", add(x, 1, 10 + i), i);
            same("its own payment", x.payment(i, 0), 10 + i);
            int next = i + 1;
            fails("not yet another", INDEX, () -> x.debt(next));
        }
    }

    private static void ifThereAreSix() {
        Usewise x = new Usewise();
        for (int i = 0; i < 5; i++) {
            add(x, 1, 10);
        }
        same("there are 5", add(x, 1, 10), 5);
        refused("there are 6", STATE, EdgesOfLeases::six, y -> add(y, 1, 10));
        refused("there are 6, one of them over", STATE, () -> {
            Usewise y = six();
            y.pass(2);
            return y;
        }, y -> add(y, 1, 10));
        refused("there are 6, all of them over", STATE, () -> {
            Usewise y = six();
            y.pass(24);
            return y;
        }, y -> add(y, 1, 10));
        refused("there are 6, with a wrong argument", ARGUMENT, EdgesOfLeases::six, y -> add(y, 0, 10));
    }

    // ---- promise 3

    private static void monthsToPass() {
        edge("3: months: 1 to 24", () -> {
            for (int months : new int[] {0, 25, -1, -24, LOW, HIGH}) {
                refused("months of " + months, ARGUMENT, EdgesOfLeases::six, x -> x.pass(months));
                refused("months of " + months + ", no lease", ARGUMENT, Usewise::new, x -> x.pass(months));
            }
            for (int months : new int[] {1, 2, 23, 24}) {
                Usewise x = one(60, 3);
                same("none over", x.pass(months), 0);
                same("months to come", x.toCome(0), 60 - months);
                same("paid", x.paid(0), 3 * months);
                same("no lease, months of " + months, new Usewise().pass(months), 0);
            }
        });
        edge("3: many months at once are as many times one", () -> {
            Usewise x = new Usewise();
            Usewise y = new Usewise();
            for (Usewise each : new Usewise[] {x, y}) {
                each.add(30, 777, 3, 50, 9000, 20, 333);
            }
            x.pass(24);
            for (int i = 0; i < 24; i++) {
                y.pass(1);
            }
            text("the same", stateOf(x), stateOf(y));
        });
    }

    private static void leasesThatAreOver() {
        edge("3: how many leases become over in them: in the last of the months", () -> {
            same("one month less than there are", one(4, 10).pass(3), 0);
            same("as many as there are", one(4, 10).pass(4), 1);
            same("one more than there are", one(4, 10).pass(5), 1);
            same("24 of 25", one(25, 10).pass(24), 0);
            same("24 of 24", one(24, 10).pass(24), 1);
            same("1 of 1", one(1, 10).pass(1), 1);
            same("24 of 1", one(1, 10).pass(24), 1);
        });
        edge("3: how many leases become over in them: none to all six", () -> {
            for (int months = 1; months <= 8; months++) {
                same("in " + months, six().pass(months), Math.max(0, Math.min(6, months - 1)));
            }
            Usewise x = six();
            for (int month = 1; month <= 9; month++) {
                same("in month " + month, x.pass(1), month >= 2 && month <= 7 ? 1 : 0);
            }
        });
        edge("3: for all leases that are not over: the others stay as they are", () -> {
            Usewise x = new Usewise();
            x.add(2, 100, 0, 0, 10000, 2, 5);
            x.pass(2);
            String before = stateOf(x);
            same("it does not become over again", x.pass(24), 0);
            text("nothing more is paid or written off", stateOf(x), before);
            same("paid", x.paid(0), 200);
        });
        edge("3: for all leases that are not over: a lease pays no more than its months", () -> {
            Usewise x = one(3, 100);
            x.pass(24);
            same("paid", x.paid(0), 300);
            same("to come", x.toCome(0), 0);
        });
        edge("3: for all leases: each one of six", () -> {
            Usewise x = six();
            x.pass(1);
            for (int i = 0; i < 6; i++) {
                same("paid", x.paid(i), 10);
                same("to come", x.toCome(i), 1 + i);
            }
        });
        edge("3: a lease without any debt becomes over as others do", () -> {
            Usewise x = of(3, 100, 12, 0);
            same("not yet", x.pass(2), 0);
            same("over", x.pass(1), 1);
        });
    }
}
