/**
 * The document's section "ERRORS": the order of the checks where several errors can apply, calls that are refused
 * and change nothing, and arguments far outside of every range.
 */
public final class RefusalsTest extends Checks {
    private static final int[] FAR = {Integer.MIN_VALUE, Integer.MIN_VALUE + 1, -1000000, -100, -6, -1, 0, 1, 3, 4, 5,
        7, 8, 9, 10, 20, 22, 23, 60, 98, 99, 100, 127, 128, 600, 601, 9999, 10000, 65536, 1 << 30,
        Integer.MAX_VALUE - 1, Integer.MAX_VALUE};

    /** A call that is refused. */
    private interface Call {
        int of(IroningBaskets x);
    }

    /** How an object is made. */
    private interface Maker {
        IroningBaskets make();
    }

    public static void main(String[] args) {
        orderOfChecks();
        orderOfChecksOfAnswers();
        orderWithoutRoom();
        noneChangesNothing();
        farArguments();
        farArgumentsOfAnswers();
        finish("RefusalsTest");
    }

    private static IroningBaskets fullShelf() {
        return withBaskets(1, 10, 100, 1000, 2, 20, 200, 2000);
    }

    private static IroningBaskets twentyLost() {
        IroningBaskets x = withBaskets(9900, 9999);
        for (int i = 0; i < 20; i++) {
            x.lose(i < 18 ? 0 : 1, i < 18 ? i / 9 : 3);
        }
        return x;
    }

    private static IroningBaskets tenCustomers() {
        return withCustomers(0, 1, 2, 3, 4, 4, 3, 2, 1, 0);
    }

    /** The call is refused like this, changes nothing, and the latest act is still undone by undo. */
    private static void refused(String name, Maker maker, Call call, int error) {
        test(name, () -> {
            IroningBaskets x = maker.make();
            String before = everythingAndMore(x);
            due("the answer", call.of(x), error);
            due("what is told after it", everythingAndMore(x), before);
            due("the answer once more", call.of(x), error);
            IroningBaskets same = maker.make();
            due("undo", x.undo(), same.undo());
            due("what undo restores", everythingAndMore(x), everythingAndMore(same));
            due("restore", x.restore(), same.restore());
            due("what restore restores", everythingAndMore(x), everythingAndMore(same));
        });
    }

    private static void orderOfChecks() {
        of("ERRORS, the order of the checks");
        refused("visit: UNKNOWN before BAD_VALUE", () -> busy(), x -> x.visit(5, 128), UNKNOWN);
        refused("visit: BAD_VALUE", () -> busy(), x -> x.visit(3, 128), BAD_VALUE);
        refused("basket: UNKNOWN before BAD_VALUE (pieces)", () -> busy(), x -> x.basket(3, 0, 0, 0), UNKNOWN);
        refused("basket: UNKNOWN before BAD_VALUE (starch)", () -> busy(), x -> x.basket(3, 1, 4, 0), UNKNOWN);
        refused("basket: UNKNOWN before BAD_VALUE (hangers)", () -> busy(), x -> x.basket(3, 1, 0, 100), UNKNOWN);
        refused("basket: UNKNOWN before NOT_POSSIBLE", () -> busy(), x -> x.basket(3, 1, 0, 3), UNKNOWN);
        refused("basket: BAD_VALUE (pieces) before NOT_POSSIBLE", () -> busy(), x -> x.basket(0, 0, 0, 3), BAD_VALUE);
        refused("basket: BAD_VALUE (starch) before NOT_POSSIBLE", () -> busy(), x -> x.basket(0, 1, 4, 3), BAD_VALUE);
        refused("basket: BAD_VALUE (hangers), not NOT_POSSIBLE", () -> busy(), x -> x.basket(0, 1, 0, 100), BAD_VALUE);
        refused("basket: NOT_POSSIBLE", () -> busy(), x -> x.basket(0, 1, 0, 3), NOT_POSSIBLE);
        refused("baskets: a fault before the errors of the baskets", () -> retyped(busy(), "9:l1;0:l1-9;x"),
                x -> x.baskets(), -112);
        refused("baskets: UNKNOWN", () -> retyped(busy(), "0:l1;9:l1"), x -> x.baskets(), UNKNOWN);
        refused("baskets: NOT_POSSIBLE", () -> retyped(busy(), "0:l1-1;0:l1-2"), x -> x.baskets(), NOT_POSSIBLE);
        refused("baskets: FULL", () -> retyped(busy(), times(5, "0:l1")), x -> x.baskets(), FULL);
        refused("lose: UNKNOWN (basket) and no such piece", () -> busy(), x -> x.lose(9, 2), UNKNOWN);
        refused("lose: UNKNOWN (kind)", () -> busy(), x -> x.lose(3, 4), UNKNOWN);
        refused("find: UNKNOWN (piece)", () -> busy(), x -> x.find(4, 3), UNKNOWN);
        refused("find: UNKNOWN (basket), and it could not belong to it", () -> busy(), x -> x.find(0, 6), UNKNOWN);
        refused("find: UNKNOWN (both)", () -> busy(), x -> x.find(-1, -1), UNKNOWN);
        refused("find: NOT_POSSIBLE", () -> busy(), x -> x.find(0, 3), NOT_POSSIBLE);
        refused("iron: BAD_VALUE", () -> busy(), x -> x.iron(601), BAD_VALUE);
        refused("pass: BAD_VALUE", () -> busy(), x -> x.pass(100), BAD_VALUE);
        refused("buy: BAD_VALUE", () -> busy(), x -> x.buy(100), BAD_VALUE);
        refused("pay: UNKNOWN", () -> busy(), x -> x.pay(3), UNKNOWN);
        refused("set: BAD_VALUE (which)", () -> busy(), x -> x.set(4, 1), BAD_VALUE);
        refused("set: BAD_VALUE (value)", () -> busy(), x -> x.set(0, 3), BAD_VALUE);
    }

    private static void orderOfChecksOfAnswers() {
        of("ERRORS, the order of the checks");
        refused("customerOf: UNKNOWN before BAD_VALUE", () -> busy(), x -> x.customerOf(3, 7), UNKNOWN);
        refused("customerOf: BAD_VALUE", () -> busy(), x -> x.customerOf(1, 7), BAD_VALUE);
        refused("basketOf: UNKNOWN before BAD_VALUE", () -> busy(), x -> x.basketOf(9, 10), UNKNOWN);
        refused("basketOf: BAD_VALUE", () -> busy(), x -> x.basketOf(2, 10), BAD_VALUE);
        refused("lost: UNKNOWN before BAD_VALUE", () -> busy(), x -> x.lost(4, 4), UNKNOWN);
        refused("lost: BAD_VALUE", () -> busy(), x -> x.lost(2, 4), BAD_VALUE);
        refused("ordered: BAD_VALUE", () -> busy(), x -> x.ordered(-1), BAD_VALUE);
        refused("ordered: NONE", () -> busy(), x -> x.ordered(4), NONE);
        refused("book: BAD_VALUE (what) before NONE", () -> new IroningBaskets(), x -> x.book(0, 4), BAD_VALUE);
        refused("book: BAD_VALUE (ago) before NONE", () -> new IroningBaskets(), x -> x.book(10, 0), BAD_VALUE);
        refused("book: NONE", () -> new IroningBaskets(), x -> x.book(0, 0), NONE);
        refused("count: BAD_VALUE", () -> busy(), x -> x.count(23), BAD_VALUE);
        refused("ifIroned: BAD_VALUE (order)", () -> busy(), x -> x.ifIroned(3, 1, 0), BAD_VALUE);
        refused("ifIroned: BAD_VALUE (minutes)", () -> busy(), x -> x.ifIroned(2, 601, 0), BAD_VALUE);
        refused("ifIroned: BAD_VALUE (what)", () -> busy(), x -> x.ifIroned(2, 600, 3), BAD_VALUE);
        refused("bestOrder: BAD_VALUE", () -> busy(), x -> x.bestOrder(0), BAD_VALUE);
        refused("homeOn: UNKNOWN before BAD_VALUE", () -> busy(), x -> x.homeOn(9, 0), UNKNOWN);
        refused("homeOn: BAD_VALUE before NONE", () -> busy(), x -> x.homeOn(2, 601), BAD_VALUE);
        refused("homeOn: NONE", () -> busy(), x -> x.homeOn(2, 1), NONE);
    }

    private static void orderWithoutRoom() {
        of("ERRORS, the order of the checks");
        refused("customer: UNKNOWN before FULL", () -> tenCustomers(), x -> x.customer(5), UNKNOWN);
        refused("customer: FULL", () -> tenCustomers(), x -> x.customer(4), FULL);
        refused("basket: UNKNOWN before FULL", () -> fullShelf(), x -> x.basket(1, 1, 0, 0), UNKNOWN);
        refused("basket: BAD_VALUE before FULL", () -> fullShelf(), x -> x.basket(0, 0, 0, 0), BAD_VALUE);
        refused("basket: NOT_POSSIBLE before FULL", () -> fullShelf(), x -> x.basket(0, 1, 0, 1), NOT_POSSIBLE);
        refused("basket: FULL", () -> fullShelf(), x -> x.basket(0, 1, 0, 0), FULL);
        refused("lose: UNKNOWN (basket) before FULL", () -> twentyLost(), x -> x.lose(2, 3), UNKNOWN);
        refused("lose: UNKNOWN (kind) before FULL", () -> twentyLost(), x -> x.lose(1, 4), UNKNOWN);
        refused("lose: FULL", () -> twentyLost(), x -> x.lose(1, 3), FULL);
        refused("lose: FULL and not NONE", () -> twentyLost(), x -> x.lose(0, 3), FULL);
        refused("pass: BAD_VALUE before FULL (too many)", () -> lateOn(9999), x -> x.pass(100), BAD_VALUE);
        refused("pass: BAD_VALUE before FULL (too few)", () -> lateOn(9999), x -> x.pass(0), BAD_VALUE);
        refused("pass: FULL", () -> lateOn(9999), x -> x.pass(1), FULL);
        refused("buy: BAD_VALUE before FULL (too many)", () -> withHangers(999), x -> x.buy(100), BAD_VALUE);
        refused("buy: BAD_VALUE before FULL (too few)", () -> withHangers(999), x -> x.buy(0), BAD_VALUE);
        refused("buy: FULL", () -> withHangers(999), x -> x.buy(1), FULL);
        refused("type: FULL", () -> retyped(busy(), times(12, "0:l1") + ";"), x -> x.type('0'), FULL);
    }

    private static void noneChangesNothing() {
        of("ERRORS, a call that returns NONE changes nothing");
        refused("visit", () -> busy(), x -> x.visit(3, 65), NONE);
        refused("lose", () -> busy(), x -> x.lose(4, 3), NONE);
        refused("pay", () -> busy(), x -> x.pay(2), NONE);
        refused("set", () -> busy(), x -> x.set(0, 2), NONE);
        refused("undo", () -> new IroningBaskets(), x -> x.undo(), NONE);
        refused("restore", () -> twentyLost(), x -> x.restore(), NONE);
        refused("fault", () -> retyped(busy(), "0:s1"), x -> x.fault(), NONE);
        refused("customerOf", () -> busy(), x -> x.customerOf(2, 5), NONE);
    }

    private static void farArguments() {
        of("arguments outside of every range");
        far("customer", 5, (x, a) -> x.customer(a));
        far("visit of a district", 5, (x, a) -> x.visit(a, 9));
        far("visit on days", 128, (x, a) -> x.visit(0, a));
        far("basket of a customer", 3, (x, a) -> x.basket(a, 1, 0, 0));
        far("basket of pieces", 10000, (x, a) -> x.basket(0, a, 0, 0));
        far("basket with starch", 4, (x, a) -> x.basket(0, 1, a, 0));
        far("basket with hangers", 3, (x, a) -> x.basket(0, 1, 0, a));
        far("lose of a basket", 6, (x, a) -> x.lose(a, 3));
        far("lose of a kind", 4, (x, a) -> x.lose(2, a));
        far("find of a piece", 4, (x, a) -> x.find(a, 2));
        far("find of a basket", 6, (x, a) -> x.find(1, a));
        far("iron", 601, (x, a) -> x.iron(a));
        far("pass", 100, (x, a) -> x.pass(a));
        far("buy", 100, (x, a) -> x.buy(a));
        far("pay", 3, (x, a) -> x.pay(a));
        far("set of a setting", 4, (x, a) -> x.set(a, 1));
        far("set to a value", 100, (x, a) -> x.set(3, a));
    }

    private static void farArgumentsOfAnswers() {
        of("arguments outside of every range");
        far("customerOf of a customer", 3, (x, a) -> x.customerOf(a, 0));
        far("customerOf what", 7, (x, a) -> x.customerOf(0, a));
        far("basketOf of a basket", 6, (x, a) -> x.basketOf(a, 0));
        far("basketOf what", 10, (x, a) -> x.basketOf(2, a));
        far("lost of a piece", 4, (x, a) -> x.lost(a, 0));
        far("lost what", 4, (x, a) -> x.lost(0, a));
        far("ordered", 4, (x, a) -> x.ordered(a));
        far("book of ago", 10, (x, a) -> x.book(a, 0));
        far("book what", 4, (x, a) -> x.book(0, a));
        far("count", 23, (x, a) -> x.count(a));
        far("ifIroned with an order", 3, (x, a) -> x.ifIroned(a, 60, 0));
        far("ifIroned for minutes", 601, (x, a) -> x.ifIroned(0, a, 0));
        far("ifIroned what", 3, (x, a) -> x.ifIroned(0, 60, a));
        far("bestOrder", 601, (x, a) -> x.bestOrder(a));
        far("homeOn of a basket", 6, (x, a) -> x.homeOn(a, 600));
        far("homeOn for minutes", 601, (x, a) -> x.homeOn(2, a));
    }

    /** A call with one argument that is far away. */
    private interface FarCall {
        int of(IroningBaskets x, int argument);
    }

    /** Below 0 and from the bound on the answer is below 0; whenever it is, what is told stays. */
    private static void far(String name, int bound, FarCall call) {
        test(name, () -> {
            for (int argument : FAR) {
                IroningBaskets x = busy();
                String before = everythingAndMore(x);
                int answer = call.of(x, argument);
                if (argument < 0 || argument >= bound) {
                    due(name + " " + argument + " is refused, not " + answer, answer < 0 ? 1 : 0, 1);
                }
                if (answer < 0) {
                    due("what is told after " + name + " " + argument, everythingAndMore(x), before);
                }
            }
        });
    }
}
