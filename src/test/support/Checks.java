/** What the tests of the project share: how they ask, compare, count and tell. */
abstract class Checks {
    static final Class<?> INDEX = IndexOutOfBoundsException.class;
    static final Class<?> ARGUMENT = IllegalArgumentException.class;
    static final Class<?> STATE = IllegalStateException.class;
    static final int LOW = Integer.MIN_VALUE;
    static final int HIGH = Integer.MAX_VALUE;

    /** The sentence or the promise that is looked at. */
    static String promise = "";

    private static int edges = 0;
    private static int checks = 0;
    private static int wrong = 0;

    interface Call {
        int run();
    }

    interface CallOn {
        int on(Usewise x);
    }

    interface Maker {
        Usewise make();
    }

    /** One sentence of the document, with a test of its own. */
    static void edge(String sentence, Runnable test) {
        promise = sentence;
        edges++;
        int before = checks;
        try {
            test.run();
        } catch (RuntimeException thrown) {
            tell("the test was stopped by " + thrown);
        }
        if (checks == before) {
            tell("nothing was looked at");
        }
    }

    static void end() {
        System.out.println((edges == 0 ? "" : edges + " edges, ") + checks + " checks, " + wrong + " wrong");
        if (wrong != 0) {
            System.exit(1);
        }
    }

    static void fails(String what, Class<?> due, Call call) {
        String got;
        try {
            got = "answered " + call.run();
        } catch (RuntimeException thrown) {
            if (thrown.getClass() == due) {
                checks++;
                return;
            }
            got = "threw " + thrown;
        }
        tell(what + " " + got + ", due is " + due.getSimpleName());
    }

    /**
     * A refused call throws what is due and changes nothing. So that nothing hidden is changed
     * either, one of two objects that are made alike is asked, and both must go on alike.
     */
    static void refused(String what, Class<?> due, Maker maker, CallOn call) {
        Usewise asked = maker.make();
        Usewise left = maker.make();
        fails(what, due, () -> call.on(asked));
        text(what + " changes nothing", stateOf(asked), stateOf(left));
        same(what + " changes no month", asked.pass(1), left.pass(1));
        text(what + " changes nothing that shows later", stateOf(asked), stateOf(left));
        text(what + " uses no number up", nextNumber(asked), nextNumber(left));
    }

    /** All that there is to read of all leases. */
    static String stateOf(Usewise x) {
        StringBuilder text = new StringBuilder();
        int count = countOf(x);
        for (int lease = 0; lease < count; lease++) {
            int months = x.toCome(lease);
            text.append(lease).append(": ").append(months);
            for (int month = 0; month < months; month++) {
                text.append(' ').append(x.payment(lease, month));
            }
            int[] sums = {x.debt(lease), x.debtByWorth(lease), x.right(lease), x.interest(lease),
                x.written(lease), x.paid(lease), x.gains(lease)};
            for (int sum : sums) {
                text.append(' ').append(sum);
            }
            text.append('\n');
        }
        return text.toString();
    }

    private static int countOf(Usewise x) {
        int count = 0;
        try {
            while (count < 100) {
                x.toCome(count);
                count++;
            }
        } catch (IndexOutOfBoundsException none) {
            return count;
        }
        return count;
    }

    private static String nextNumber(Usewise x) {
        try {
            return "" + x.add(1, 1, 0, 0, 0, 1, 0);
        } catch (IllegalStateException full) {
            return "none";
        }
    }

    static void same(String what, long got, long due) {
        if (got == due) {
            checks++;
        } else {
            tell(what + " answered " + got + ", due is " + due);
        }
    }

    static void text(String what, String got, String due) {
        if (got.equals(due)) {
            checks++;
        } else {
            tell(what + ", but there is\n" + got + "\nand due is\n" + due);
        }
    }

    static void yes(String what, boolean holds) {
        if (holds) {
            checks++;
        } else {
            tell(what + " does not hold");
        }
    }

    private static void tell(String text) {
        checks++;
        wrong++;
        System.out.println("promise " + promise + ": " + text);
    }

    // ---- calls that many tests make

    static int add(Usewise x, int term, int payment) {
        return x.add(term, payment, 0, 0, 0, 120, 0);
    }

    static int add(Usewise x, int[] a) {
        return x.add(a[0], a[1], a[2], a[3], a[4], a[5], a[6]);
    }

    /** An object with one lease at no rate, with a long life and without costs. */
    static Usewise one(int term, int payment) {
        Usewise x = new Usewise();
        add(x, term, payment);
        return x;
    }

    static int reviews(Usewise x, int lease, int percent, int times) {
        int debt = x.debt(lease);
        for (int i = 0; i < times; i++) {
            debt = x.review(lease, percent);
        }
        return debt;
    }

    /** Makes each payment of 10000 that is to come one of 1000000. */
    static int toTheMost(Usewise x, int lease) {
        reviews(x, lease, 25, 2);
        return reviews(x, lease, 100, 6);
    }

    static int passes(Usewise x, int times) {
        int ended = 0;
        for (int i = 0; i < times; i++) {
            ended += x.pass(24);
        }
        return ended;
    }
}
