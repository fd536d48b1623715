/** Compares long runs of calls with the reference; the runs are the same each time. */
public final class ReferenceTest {
    private static final int RUNS = 300;
    private static final int CALLS = 512;
    private static final int MOST_WRONG = 20;
    private static final int[] EDGES = {Integer.MIN_VALUE, -100, -1, 10, 60, 99, 100, 600, 601, 10000,
        Integer.MAX_VALUE};

    private static final int[] MOST_SETTING = {2, 20, 60, 99};

    // How often each call comes, by the profile of the run: the order is that of callAt.
    private static final int[][] WEIGHTS = {
        {4, 3, 12, 2, 6, 4, 10, 8, 2, 2, 4, 6, 1, 1, 5, 1, 1, 10},
        {3, 0, 30, 2, 0, 1, 12, 14, 2, 1, 1, 1, 1, 1, 1, 1, 0, 4},
        {3, 1, 12, 2, 30, 10, 3, 3, 1, 1, 3, 1, 1, 1, 5, 1, 1, 8},
        {3, 1, 2, 8, 2, 1, 8, 8, 1, 1, 1, 45, 3, 4, 3, 1, 1, 6},
        {3, 3, 10, 2, 1, 1, 12, 20, 25, 3, 8, 1, 1, 1, 1, 1, 1, 6},
        {2, 1, 4, 1, 1, 1, 4, 60, 1, 3, 2, 1, 1, 1, 1, 1, 1, 6},
    };

    private long seed;
    private int wrong;
    private int checks;
    private IroningBaskets real;
    private Reference due;
    private String call;
    private int profile;

    public static void main(String[] args) {
        ReferenceTest test = new ReferenceTest();
        for (int run = 0; run < RUNS && test.wrong < MOST_WRONG; run++) {
            test.run(run);
        }
        System.out.println("ReferenceTest: " + test.checks + " answers, " + test.wrong + " wrong");
        if (test.wrong != 0) {
            System.exit(1);
        }
    }

    private void run(int run) {
        seed = run * 7919L + 17;
        profile = run % WEIGHTS.length;
        real = new IroningBaskets();
        due = new Reference();
        for (int i = 0; i < CALLS && wrong < MOST_WRONG; i++) {
            int wrongBefore = wrong;
            callAt(draw(WEIGHTS[profile]));
            compareCounts();
            if (i % 7 == 0) {
                compareAll();
            }
            if (wrong != wrongBefore) {
                System.out.println("run " + run + ", call " + i + " was " + call);
                return;
            }
        }
    }

    // A generator of our own, so that the runs stay the same whatever the library does.
    private int below(int bound) {
        seed = seed * 6364136223846793005L + 1442695040888963407L;
        return (int) ((seed >>> 33) % bound);
    }

    private int draw(int[] weights) {
        int sum = 0;
        for (int w : weights) {
            sum += w;
        }
        int at = below(sum);
        int i = 0;
        while (at >= weights[i]) {
            at -= weights[i];
            i++;
        }
        return i;
    }

    /** Mostly from the range, sometimes just outside it or far away. */
    private int from(int least, int most) {
        int kind = below(40);
        if (kind == 0) {
            return EDGES[below(EDGES.length)];
        }
        if (kind < 3) {
            return below(2) == 0 ? least - 1 : most + 1;
        }
        if (kind < 6) {
            return below(2) == 0 ? least : most;
        }
        return least + below(most - least + 1);
    }

    private int someBasket() {
        int here = due.count(2);
        if (here == 0 || below(20) == 0) {
            return from(0, 99);
        }
        return due.ordered(below(here));
    }

    private int someCustomer() {
        return from(0, Math.max(0, due.count(1) - 1));
    }

    private int someHangers(int customer) {
        int out = due.customerOf(customer, 1);
        if (out < 1) {
            return below(6) == 0 ? from(0, 1) : 0;
        }
        return profile == 1 ? Math.min(99, out) : from(0, Math.min(99, out));
    }

    private int somePieces() {
        int pieces = 0;
        for (int i = 0; i < 4; i++) {
            pieces = pieces * 10 + (below(2) == 0 ? 0 : below(profile == 1 ? 3 : 10));
        }
        return below(15) == 0 ? from(1, 9999) : Math.max(1, pieces);
    }

    private void callAt(int which) {
        switch (which) {
            case 0: { int a = from(0, 4); note("customer", a); same(real.customer(a), due.customer(a)); break; }
            case 1: { int a = from(0, 4); int b = from(0, 127);
                note("visit", a, b); same(real.visit(a, b), due.visit(a, b)); break; }
            case 2: { int a = someCustomer(); int b = somePieces(); int c = from(0, 3); int d = someHangers(a);
                note("basket", a, b, c, d); same(real.basket(a, b, c, d), due.basket(a, b, c, d)); break; }
            case 3: note("baskets"); same(real.baskets(), due.baskets()); break;
            case 4: { int a = someBasket(); int b = from(0, 3);
                note("lose", a, b); same(real.lose(a, b), due.lose(a, b)); break; }
            case 5: { int a = from(0, Math.max(0, due.count(10) - 1)); int b = someBasket();
                note("find", a, b); same(real.find(a, b), due.find(a, b)); break; }
            case 6: { int a = profile == 1 ? 600 : from(1, below(3) == 0 ? 600 : 60);
                note("iron", a); same(real.iron(a), due.iron(a)); break; }
            case 7: { int a = profile == 5 && below(8) != 0 ? 99 : from(1, below(10) == 0 ? 99 : 5);
                note("pass", a); same(real.pass(a), due.pass(a)); break; }
            case 8: { int a = from(1, 99); note("buy", a); same(real.buy(a), due.buy(a)); break; }
            case 9: { int a = someCustomer(); note("pay", a); same(real.pay(a), due.pay(a)); break; }
            case 10: { int a = from(0, 3); int b = from(a == 2 ? 1 : 0, MOST_SETTING[Math.max(0, Math.min(3, a))]);
                note("set", a, b); same(real.set(a, b), due.set(a, b)); break; }
            case 11: typeSome(); break;
            case 12: note("clearText"); same(real.clearText(), due.clearText()); break;
            case 13: note("fault"); same(real.fault(), due.fault()); break;
            case 14: note("undo"); same(real.undo(), due.undo()); break;
            case 15: note("keep"); same(real.keep(), due.keep()); break;
            case 16: note("restore"); same(real.restore(), due.restore()); break;
            default: ask(); break;
        }
    }

    private void ask() {
        int minutes = from(1, below(2) == 0 ? 600 : 40);
        int order = from(0, 2);
        int what = from(0, 2);
        int basket = someBasket();
        note("ifIroned", order, minutes, what);
        same(real.ifIroned(order, minutes, what), due.ifIroned(order, minutes, what));
        note("bestOrder", minutes);
        same(real.bestOrder(minutes), due.bestOrder(minutes));
        note("homeOn", basket, minutes);
        same(real.homeOn(basket, minutes), due.homeOn(basket, minutes));
    }

    /** Types a basket that is mostly right, a sign of it left out or changed now and then. */
    private void typeSome() {
        StringBuilder typed = new StringBuilder();
        if (due.count(18) > 0 && below(4) != 0) {
            typed.append(';');
        }
        typed.append(below(Math.max(1, Math.min(10, due.count(1))))).append(':');
        String kinds = "sbtl";
        for (int i = 0; i < 4; i++) {
            if (below(2) == 0 || i == 3 && typed.charAt(typed.length() - 1) == ':') {
                typed.append(kinds.charAt(i)).append(1 + below(9));
            }
        }
        if (below(3) == 0) {
            typed.append('*').append(1 + below(3));
        }
        if (below(3) == 0) {
            typed.append('-').append(1 + below(below(3) == 0 ? 99 : 5));
        }
        if (below(5) == 0) {
            String signs = "0123456789:;sbtl*-x ";
            typed.setCharAt(below(typed.length()), signs.charAt(below(signs.length())));
        }
        if (below(30) == 0) {
            typed.setCharAt(below(typed.length()), (char) below(65536));
        }
        int length = below(8) == 0 ? 1 + below(typed.length()) : typed.length();
        for (int i = 0; i < length; i++) {
            char c = typed.charAt(i);
            note("type", c);
            same(real.type(c), due.type(c));
            note("fault");
            same(real.fault(), due.fault());
        }
    }

    private void compareCounts() {
        for (int what = -1; what <= 23; what++) {
            same("count", what, 0, real.count(what), due.count(what));
        }
        same("wanting", 0, 0, real.wanting(), due.wanting());
        same("sure", 0, 0, real.sure(), due.sure());
        same("meanMinutes", 0, 0, Float.floatToIntBits(real.meanMinutes()),
                Float.floatToIntBits(due.meanMinutes()));
    }

    private void compareAll() {
        for (int i = -1; i <= 99; i++) {
            for (int what = -1; what <= 10; what++) {
                if (i <= 10) {
                    same("customerOf", i, what, real.customerOf(i, what), due.customerOf(i, what));
                    same("book", i, what, real.book(i, what), due.book(i, what));
                }
                if (i <= 20) {
                    same("lost", i, what, real.lost(i, what), due.lost(i, what));
                }
                same("basketOf", i, what, real.basketOf(i, what), due.basketOf(i, what));
            }
            same("ordered", i, 0, real.ordered(i), due.ordered(i));
        }
    }

    private void note(String name, int... arguments) {
        call = name + java.util.Arrays.toString(arguments);
    }

    private void same(int got, int want) {
        checks++;
        if (got != want) {
            wrong++;
            System.out.println(call + " answered " + got + ", due is " + want);
        }
    }

    private void same(String name, int first, int second, int got, int want) {
        checks++;
        if (got != want) {
            wrong++;
            System.out.println(name + "(" + first + ", " + second + ") answered " + got + ", due is " + want);
        }
    }
}
