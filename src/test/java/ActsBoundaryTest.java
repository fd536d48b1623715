/** The edges that the promises 1 to 18 name, a test for each: what changes the state, the text or the history. */
public final class ActsBoundaryTest extends Checks {
    public static void main(String[] args) {
        promise1NewObject();
        promise2Customer();
        promise3Visit();
        promise4Basket();
        promise4NoRoom();
        promise5Baskets();
        promise5AllOrNone();
        promise6Lose();
        promise7Find();
        promise8Iron();
        promise9Pass();
        promise10Buy();
        promise11Pay();
        promise12Set();
        promise13Type();
        promise14ClearText();
        promise15Fault();
        promise16Undo();
        promise17Keep();
        promise18Restore();
        finish("ActsBoundaryTest");
    }

    private static void promise1NewObject() {
        of("promise 1");
        test("without customers", () -> {
            IroningBaskets x = new IroningBaskets();
            due(x.count(1), 0);
            due(x.customerOf(0, 0), UNKNOWN);
            due(x.pay(0), UNKNOWN);
            due(x.basket(0, 1, 0, 0), UNKNOWN);
        });
        test("on the day 0", () -> due(new IroningBaskets().count(0), 0));
        test("without baskets, lost pieces, events, a history, a text", () -> {
            IroningBaskets x = new IroningBaskets();
            due(x.ordered(0), NONE);
            due(x.lost(0, 0), UNKNOWN);
            due(x.book(0, 0), NONE);
            due(x.undo(), NONE);
            due(x.restore(), NONE);
            due(x.clearText(), 0);
        });
        test("each object is a service of its own", () -> {
            IroningBaskets x = withBaskets(1111);
            x.lose(0, 0);
            x.keep();
            IroningBaskets y = new IroningBaskets();
            due("another", everythingAndMore(y), everythingAndMore(new IroningBaskets()));
            due(y.restore(), NONE);
            due(x.count(1), 1);
        });
    }

    private static void promise2Customer() {
        of("promise 2");
        test("0 to 4: each district", () -> {
            for (int district = 0; district <= 4; district++) {
                IroningBaskets x = new IroningBaskets();
                due("customer(" + district + ")", x.customer(district), 0);
                due("its district", x.customerOf(0, 0), district);
            }
        });
        test("UNKNOWN (district): just outside and far away", () -> {
            IroningBaskets x = new IroningBaskets();
            for (int district : new int[] {-1, 5, Integer.MIN_VALUE, Integer.MAX_VALUE, 1 << 8, 1 << 16}) {
                due("customer(" + district + ")", x.customer(district), UNKNOWN);
            }
            due(x.count(1), 0);
        });
        test("FULL if there are 10: nine are not full", () -> {
            IroningBaskets x = withCustomers(0, 0, 0, 0, 0, 0, 0, 0, 0);
            due(x.customer(0), 9);
            due(x.customer(0), FULL);
            due(x.count(1), 10);
        });
        test("after undo there is room again", () -> {
            IroningBaskets x = withCustomers(0, 0, 0, 0, 0, 0, 0, 0, 0, 0);
            due(x.customer(3), FULL);
            x.undo();
            due(x.customer(3), 9);
            due(x.customerOf(9, 0), 3);
        });
        test("the tenth has all that a customer has", () -> {
            IroningBaskets x = withCustomers(0, 0, 0, 0, 0, 0, 0, 0, 0, 4);
            sendHangers(x, 9, 3);
            due(x.customerOf(9, 1), 3);
            due(x.customerOf(9, 2), 9);
            x.pass(15);
            due(x.customerOf(9, 3), 3);
            due(x.pay(9), 15);
        });
    }

    private static void promise3Visit() {
        of("promise 3");
        test("district 0 to 4", () -> {
            for (int district = 0; district <= 4; district++) {
                due("visit(" + district + ", 1)", new IroningBaskets().visit(district, 1), 127);
            }
        });
        test("UNKNOWN: just outside and far away", () -> {
            IroningBaskets x = new IroningBaskets();
            for (int district : new int[] {-1, 5, Integer.MIN_VALUE, Integer.MAX_VALUE}) {
                due("visit(" + district + ", 1)", x.visit(district, 1), UNKNOWN);
            }
        });
        test("days 0 to 127: none and all", () -> {
            IroningBaskets x = new IroningBaskets();
            due(x.visit(0, 0), 127);
            due(x.visit(0, 127), 0);
            due(x.visit(0, 126), 127);
            due(x.visit(0, 1), 126);
        });
        test("BAD_VALUE: just outside and far away", () -> {
            IroningBaskets x = new IroningBaskets();
            for (int days : new int[] {-1, 128, 255, Integer.MIN_VALUE, Integer.MAX_VALUE}) {
                due("visit(0, " + days + ")", x.visit(0, days), BAD_VALUE);
            }
            due(x.visit(0, 127), NONE);
        });
        test("NONE if it is so already: at first, and after a change", () -> {
            IroningBaskets x = new IroningBaskets();
            due(x.visit(3, 127), NONE);
            due(x.visit(3, 5), 127);
            due(x.visit(3, 5), NONE);
            due(x.visit(3, 4), 5);
        });
        test("a district: the others keep theirs", () -> {
            IroningBaskets x = new IroningBaskets();
            x.visit(2, 9);
            due(x.visit(1, 127), NONE);
            due(x.visit(3, 127), NONE);
            due(x.visit(2, 9), NONE);
        });
        test("it holds for the baskets that are here already", () -> {
            IroningBaskets x = withBaskets(1);
            x.iron(8);
            x.visit(0, 0);
            due(x.pass(1), 0);
            x.visit(0, 127);
            due(x.pass(1), 1);
        });
    }

    private static void promise4Basket() {
        of("promise 4");
        test("a customer: UNKNOWN if there is none, or not so many", () -> {
            due(new IroningBaskets().basket(0, 1, 0, 0), UNKNOWN);
            IroningBaskets x = withCustomers(0, 0);
            for (int customer : new int[] {-1, 2, 10, Integer.MIN_VALUE, Integer.MAX_VALUE}) {
                due("basket of " + customer, x.basket(customer, 1, 0, 0), UNKNOWN);
            }
            due(x.basket(1, 1, 0, 0), 0);
        });
        test("pieces 1 to 9999", () -> {
            IroningBaskets x = withCustomers(0);
            due(x.basket(0, 1, 0, 0), 0);
            due(x.basket(0, 9999, 0, 0), 1);
            due(x.basketOf(0, 3), 1);
            due(x.basketOf(1, 3), 9999);
        });
        test("BAD_VALUE: 0 and 10000 pieces, and far away", () -> {
            IroningBaskets x = withCustomers(0);
            for (int pieces : new int[] {0, -1, 10000, 11111, -9999, Integer.MIN_VALUE, Integer.MAX_VALUE}) {
                due("pieces " + pieces, x.basket(0, pieces, 0, 0), BAD_VALUE);
            }
        });
        test("starch 0 to 3", () -> {
            IroningBaskets x = withCustomers(0);
            due(x.basket(0, 1, 0, 0), 0);
            due(x.basket(0, 1, 3, 0), 1);
            due(x.basketOf(0, 2), 0);
            due(x.basketOf(1, 2), 3);
        });
        test("BAD_VALUE: starch -1 and 4, and far away", () -> {
            IroningBaskets x = withCustomers(0);
            for (int starch : new int[] {-1, 4, Integer.MIN_VALUE, Integer.MAX_VALUE}) {
                due("starch " + starch, x.basket(0, 1, starch, 0), BAD_VALUE);
            }
        });
        test("BAD_VALUE: hangers -1 and 100, and far away; 99 are in range", () -> {
            IroningBaskets x = withCustomers(0);
            for (int hangers : new int[] {-1, 100, Integer.MIN_VALUE, Integer.MAX_VALUE}) {
                due("hangers " + hangers, x.basket(0, 1, 0, hangers), BAD_VALUE);
            }
            due(x.basket(0, 1, 0, 99), NOT_POSSIBLE);
            due(x.basket(0, 1, 0, 0), 0);
        });
        test("NOT_POSSIBLE if the customer has not so many hangers: one more than it has, and as many", () -> {
            IroningBaskets x = withCustomers(0);
            sendHangers(x, 0, 7);
            due(x.basket(0, 1, 0, 8), NOT_POSSIBLE);
            due(x.basket(0, 1, 0, 7), 1);
            due(x.basket(0, 1, 0, 1), NOT_POSSIBLE);
        });
        test("hangers on pieces that are here are not the customer's yet", () -> {
            IroningBaskets x = withBaskets(10);
            x.iron(6);
            due(x.basket(0, 1, 0, 1), NOT_POSSIBLE);
            x.pass(1);
            due(x.basket(0, 1, 0, 1), 1);
        });
    }

    private static void promise4NoRoom() {
        of("promise 4");
        test("FULL if 8 baskets are here: the eighth comes, the ninth does not", () -> {
            IroningBaskets x = withBaskets(1, 1, 1, 1, 1, 1, 1);
            due(x.basket(0, 1, 0, 0), 7);
            due(x.basket(0, 1, 0, 0), FULL);
            due(x.count(2), 8);
            due(x.count(4), 8);
        });
        test("8 of all customers, not of each", () -> {
            IroningBaskets x = withCustomers(0, 1);
            for (int i = 0; i < 8; i++) {
                x.basket(i % 2, 1, 0, 0);
            }
            due(x.basket(0, 1, 0, 0), FULL);
            due(x.basket(1, 1, 0, 0), FULL);
        });
        test("FULL if 99 came, although none is here", () -> {
            IroningBaskets x = afterBaskets(98);
            due(x.count(2), 0);
            due(x.basket(0, 1, 0, 0), 98);
            x.iron(8);
            x.pass(1);
            due(x.count(2), 0);
            due(x.basket(0, 1, 0, 0), FULL);
            due(x.count(4), 99);
        });
        test("after undo there is room for the ninety-ninth again", () -> {
            IroningBaskets x = afterBaskets(98);
            due(x.basket(0, 1, 0, 0), 98);
            due(x.basket(0, 1, 0, 0), FULL);
            x.undo();
            due(x.basket(0, 2, 0, 0), 98);
            due(x.basketOf(98, 3), 2);
        });
        test("the hangers of 99 baskets are told apart", () -> {
            IroningBaskets x = withCustomers(0);
            x.set(2, 60);
            x.buy(39);
            for (int i = 0; i < 99; i++) {
                x.basket(0, 10, 0, 0);
                if (i % 8 == 7 || i == 98) {
                    x.iron(48);
                    x.pass(1);
                }
            }
            due(x.count(0), 13);
            due(x.customerOf(0, 1), 99);
            due(x.customerOf(0, 5), 1);
            x.pass(48);
            due(x.customerOf(0, 3), 0);
            x.pass(1);
            due(x.customerOf(0, 3), 8);
            x.pass(12);
            due(x.customerOf(0, 3), 99);
        });
    }

    /** A customer whose baskets came, up to 98 of them, and were all taken. */
    private static IroningBaskets afterBaskets(int number) {
        IroningBaskets x = withCustomers(0);
        for (int i = 0; i < number; i++) {
            x.basket(0, 1, 0, 0);
            if (i % 8 == 7 || i == number - 1) {
                x.iron(64);
                x.pass(1);
            }
        }
        return x;
    }

    private static void promise5Baskets() {
        of("promise 5");
        test("-100 minus the fault: the empty text", () -> due(new IroningBaskets().baskets(), -100));
        test("-100 minus the fault: the first, the second and the last character", () -> {
            due(withText("x").baskets(), -100);
            due(withText("0x").baskets(), -101);
            due(withText(times(10, "0:l1") + ";0:s1l1*3-x").baskets(), -159);
        });
        test("-100 minus the fault: 60 characters that end too early", () -> {
            due(withText(times(12, "0:l1") + ";").baskets(), -160);
        });
        test("the fault comes before the baskets in front of it", () -> {
            due(withText("9:l1;x").baskets(), -105);
            IroningBaskets x = withCustomers(0);
            due(retyped(x, "0:l1;0:l1;0").baskets(), -111);
            due(x.count(4), 0);
        });
        test("how many the text has: one, and eight", () -> {
            due(retyped(withCustomers(0), "0:l1").baskets(), 1);
            IroningBaskets x = retyped(withCustomers(0), times(8, "0:l1"));
            due(x.baskets(), 8);
            due(x.count(2), 8);
        });
        test("the text stays: it can come again", () -> {
            IroningBaskets x = retyped(withCustomers(0), "0:l1;0:l2");
            due(x.baskets(), 2);
            due(x.count(18), 9);
            due(x.baskets(), 2);
            due(x.basketOf(3, 3), 2);
        });
        test("the text stays if there is an error", () -> {
            IroningBaskets x = withText("0:l1");
            due(x.baskets(), UNKNOWN);
            due(x.count(18), 4);
            x.customer(0);
            due(x.baskets(), 1);
        });
        test("this is one act", () -> {
            IroningBaskets x = retyped(withCustomers(0), times(8, "0:l1"));
            x.baskets();
            due(x.count(17), 2);
            due(x.undo(), 1);
            due(x.count(4), 0);
            due(x.count(1), 1);
        });
        test("one after the other: their numbers, pins and events", () -> {
            IroningBaskets x = retyped(withCustomers(0, 1), "1:s1;0:b1*2");
            x.baskets();
            due(x.basketOf(0, 0), 1);
            due(x.basketOf(1, 0), 0);
            due(x.basketOf(1, 1), 1);
            due(x.basketOf(1, 2), 2);
            due(x.book(0, 2), 1);
            due(x.book(1, 2), 0);
            due(x.book(2, 0), NONE);
        });
    }

    private static void promise5AllOrNone() {
        of("promise 5");
        test("the error of the first one: UNKNOWN", () -> {
            dueNone(retyped(withCustomers(0), "1:l1;0:l1"), UNKNOWN);
        });
        test("the error of the last one: UNKNOWN", () -> {
            dueNone(retyped(withCustomers(0), "0:l1;0:l1;9:l1"), UNKNOWN);
        });
        test("when its turn comes: hangers that the one before has given", () -> {
            IroningBaskets x = withCustomers(0);
            sendHangers(x, 0, 5);
            dueNone(retyped(x, "0:l1-3;0:l1-3"), NOT_POSSIBLE);
            due(retyped(x, "0:l1-3;0:l1-2").baskets(), 2);
            due(x.count(5), 60);
        });
        test("when its turn comes: the shelf is full after those before", () -> {
            dueNone(retyped(withCustomers(0), times(9, "0:l1")), FULL);
            dueNone(retyped(withBaskets(1, 1, 1, 1, 1, 1, 1), "0:l1;0:l1"), FULL);
            due(retyped(withBaskets(1, 1, 1, 1, 1, 1, 1), "0:l1").baskets(), 1);
        });
        test("when its turn comes: the ninety-ninth is the last", () -> {
            IroningBaskets x = afterBaskets(97);
            dueNone(retyped(x, times(3, "0:l1")), FULL);
            due(retyped(x, times(2, "0:l1")).baskets(), 2);
            due(x.count(4), 99);
        });
        test("for the first one that has one: not the error of a later one", () -> {
            dueNone(retyped(withCustomers(0), times(9, "0:l1") + ";1:l1"), FULL);
            dueNone(retyped(withCustomers(0), "0:l1-1;1:l1"), NOT_POSSIBLE);
            dueNone(retyped(withCustomers(0), "1:l1;0:l1-1"), UNKNOWN);
        });
        test("of the errors of one basket the first: UNKNOWN, NOT_POSSIBLE, FULL", () -> {
            IroningBaskets x = withBaskets(1, 1, 1, 1, 1, 1, 1, 1);
            dueNone(retyped(x, "1:l1-1"), UNKNOWN);
            dueNone(retyped(x, "0:l1-1"), NOT_POSSIBLE);
            dueNone(retyped(x, "0:l1"), FULL);
        });
        test("twelve baskets are the most that a text has: they are too many", () -> {
            dueNone(retyped(withCustomers(0), times(12, "0:l1")), FULL);
        });
    }

    private static void dueNone(IroningBaskets x, int error) {
        String before = everythingAndMore(x);
        due("baskets()", x.baskets(), error);
        due("what was before", everythingAndMore(x), before);
    }

    private static void promise6Lose() {
        of("promise 6");
        test("a basket that is here: UNKNOWN before it comes and after it left", () -> {
            IroningBaskets x = withBaskets(1);
            due(x.lose(1, 3), UNKNOWN);
            due(x.lose(-1, 3), UNKNOWN);
            due(x.lose(Integer.MIN_VALUE, 3), UNKNOWN);
            due(x.lose(Integer.MAX_VALUE, 3), UNKNOWN);
            x.iron(8);
            x.pass(1);
            due(x.lose(0, 3), UNKNOWN);
        });
        test("kind 0 to 3: UNKNOWN outside and far away", () -> {
            IroningBaskets x = withBaskets(1111);
            for (int kind : new int[] {-1, 4, Integer.MIN_VALUE, Integer.MAX_VALUE}) {
                due("lose(0, " + kind + ")", x.lose(0, kind), UNKNOWN);
            }
            for (int kind = 0; kind <= 3; kind++) {
                due("lose(0, " + kind + ")", x.lose(0, kind), kind + 1);
            }
        });
        test("NONE if it has no such piece: it never had one", () -> due(withBaskets(1).lose(0, 0), NONE));
        test("NONE if it has no such piece: all are lost", () -> {
            IroningBaskets x = withBaskets(2);
            due(x.lose(0, 3), 1);
            due(x.lose(0, 3), 2);
            due(x.lose(0, 3), NONE);
            due(x.basketOf(0, 5), 2);
        });
        test("NONE if it has no such piece: all are ironed, or ironed and lost", () -> {
            IroningBaskets x = withBaskets(2, 2);
            x.iron(16);
            due(x.lose(0, 3), NONE);
            x.lose(1, 3);
            x.iron(8);
            due(x.lose(1, 3), NONE);
        });
        test("FULL if 20 pieces are lost: the twentieth is, one more is not", () -> {
            IroningBaskets x = withLost(19);
            due(x.lose(1, 0), 20);
            due(x.lose(1, 0), FULL);
            due(x.count(10), 20);
            due(x.lost(19, 0), 0);
            due(x.lost(20, 0), UNKNOWN);
        });
        test("when one is found there is room again", () -> {
            IroningBaskets x = withLost(20);
            due(x.find(0, 0), 19);
            due(x.lose(1, 1), 20);
            due(x.lose(1, 1), FULL);
        });
        test("NONE is returned only if no error applies: with 20 lost pieces FULL", () -> {
            IroningBaskets x = withLost(20);
            due(x.lose(1, 3), FULL);
            due(x.lose(0, 0), FULL);
        });
    }

    /** Two baskets of 9990 pieces, of which up to 20 are lost: nine and nine of the first, two of the second. */
    private static IroningBaskets withLost(int number) {
        IroningBaskets x = withBaskets(9990, 9990);
        for (int i = 0; i < number; i++) {
            x.lose(i < 18 ? 0 : 1, i / 9 % 2);
        }
        return x;
    }

    private static void promise7Find() {
        of("promise 7");
        test("a lost piece: UNKNOWN without any, below 0 and behind the last", () -> {
            IroningBaskets x = withBaskets(2);
            due(x.find(0, 0), UNKNOWN);
            x.lose(0, 3);
            x.lose(0, 3);
            for (int piece : new int[] {-1, 2, 20, Integer.MIN_VALUE, Integer.MAX_VALUE}) {
                due("find(" + piece + ", 0)", x.find(piece, 0), UNKNOWN);
            }
            due(x.find(1, 0), 1);
        });
        test("a basket that is here: UNKNOWN before it comes and after it left", () -> {
            IroningBaskets x = withBaskets(1, 1);
            x.lose(1, 3);
            for (int basket : new int[] {-1, 2, 99, Integer.MIN_VALUE, Integer.MAX_VALUE}) {
                due("find(0, " + basket + ")", x.find(0, basket), UNKNOWN);
            }
            x.iron(8);
            x.pass(1);
            due(x.find(0, 0), UNKNOWN);
            due(x.find(0, 1), 0);
        });
        test("NOT_POSSIBLE if it cannot belong to the basket", () -> {
            IroningBaskets x = withBaskets(1, 1);
            x.lose(0, 3);
            due(x.find(0, 1), NOT_POSSIBLE);
            due(x.count(10), 1);
        });
        test("how many pieces are lost then: from 20 to 0", () -> {
            IroningBaskets x = withLost(20);
            for (int left = 19; left >= 0; left--) {
                due("left", x.find(left, left < 18 ? 0 : 1), left);
            }
            due(x.find(0, 0), UNKNOWN);
        });
    }

    private static void promise8Iron() {
        of("promise 8");
        test("minutes 1 to 600", () -> {
            IroningBaskets x = withBaskets(9);
            due(x.iron(1), 0);
            due(x.iron(600), 9);
        });
        test("BAD_VALUE: 0 and 601, and far away", () -> {
            IroningBaskets x = withBaskets(9);
            for (int minutes : new int[] {0, 601, -1, Integer.MIN_VALUE, Integer.MAX_VALUE}) {
                due("iron(" + minutes + ")", x.iron(minutes), BAD_VALUE);
            }
            due(x.count(13), 0);
        });
        test("600 minutes are more than all sheets take, and less than four full baskets", () -> {
            IroningBaskets x = withBaskets(9, 9, 9, 9, 9, 9, 9, 9);
            due(x.iron(600), 72);
            due(x.count(14), 576);
            x = withBaskets(9999, 9999, 9999, 9999);
            x.buy(99);
            // Two baskets take 414 minutes, shirts, blouses and trousers of the third 135, six sheets 48.
            due(x.iron(600), 36 + 36 + 27 + 6);
            due(x.count(14), 597);
        });
        test("nothing ironed is an act, too", () -> {
            IroningBaskets x = new IroningBaskets();
            due(x.iron(600), 0);
            due(x.undo(), 0);
        });
    }

    private static void promise9Pass() {
        of("promise 9");
        test("days 1 to 99", () -> {
            IroningBaskets x = new IroningBaskets();
            due(x.pass(1), 0);
            due(x.pass(99), 0);
            due(x.count(0), 100);
        });
        test("BAD_VALUE: 0 and 100, and far away", () -> {
            IroningBaskets x = new IroningBaskets();
            for (int days : new int[] {0, 100, -1, Integer.MIN_VALUE, Integer.MAX_VALUE}) {
                due("pass(" + days + ")", x.pass(days), BAD_VALUE);
            }
            due(x.count(0), 0);
        });
        test("FULL if the day would be more than 9999: 9999 is not", () -> {
            IroningBaskets x = lateOn(9900);
            due(x.pass(99), 0);
            due(x.count(0), 9999);
            due(x.pass(1), FULL);
            due(x.pass(99), FULL);
            due(x.count(0), 9999);
        });
        test("FULL: not even the days that there are pass", () -> {
            IroningBaskets x = lateOn(9901);
            x.customer(0);
            x.basket(0, 1, 0, 0);
            x.iron(8);
            due(x.pass(99), FULL);
            due(x.count(0), 9901);
            due(x.count(2), 1);
            due(x.pass(98), 1);
            due(x.count(0), 9999);
        });
        test("how many baskets the van takes in them: 0, and all 8 on several days", () -> {
            IroningBaskets x = withCustomers(0, 1, 2, 3);
            for (int i = 0; i < 8; i++) {
                x.basket(i % 4, 1, 0, 0);
            }
            x.visit(0, 1);
            x.visit(1, 2);
            x.visit(2, 4);
            x.visit(3, 64);
            due(x.pass(7), 0);
            x.iron(64);
            due(x.pass(7), 8);
            due(x.book(0, 1), 14);
            due(x.book(7, 1), 8);
        });
    }

    private static void promise10Buy() {
        of("promise 10");
        test("hangers 1 to 99", () -> {
            IroningBaskets x = new IroningBaskets();
            due(x.buy(1), 61);
            due(x.buy(99), 160);
            due(x.count(9), 100);
        });
        test("BAD_VALUE: 0 and 100, and far away", () -> {
            IroningBaskets x = new IroningBaskets();
            for (int hangers : new int[] {0, 100, -1, Integer.MIN_VALUE, Integer.MAX_VALUE}) {
                due("buy(" + hangers + ")", x.buy(hangers), BAD_VALUE);
            }
            due(x.count(5), 60);
        });
        test("FULL if there would be more than 999: 999 are not too many", () -> {
            IroningBaskets x = withHangers(950);
            due(x.buy(50), FULL);
            due(x.buy(49), 999);
            due(x.buy(1), FULL);
            due(x.count(9), 939);
        });
        test("that are not paid by customers: those on pieces count", () -> {
            IroningBaskets x = withHangers(950);
            x.customer(0);
            x.basket(0, 50, 0, 0);
            x.iron(600);
            due(x.buy(50), FULL);
            due(x.buy(49), 994);
        });
        test("that are not paid by customers: those that are out count", () -> {
            IroningBaskets x = withHangers(950);
            x.customer(0);
            sendHangers(x, 0, 5);
            due(x.buy(50), FULL);
            due(x.buy(49), 994);
        });
        test("those that were paid do not count", () -> {
            IroningBaskets x = withHangers(950);
            x.customer(0);
            sendHangers(x, 0, 5);
            x.pass(15);
            due(x.buy(55), FULL);
            due(x.buy(54), 999);
        });
    }

    private static void promise11Pay() {
        of("promise 11");
        test("a customer: UNKNOWN outside and far away", () -> {
            IroningBaskets x = withCustomers(0);
            for (int customer : new int[] {-1, 1, 10, Integer.MIN_VALUE, Integer.MAX_VALUE}) {
                due("pay(" + customer + ")", x.pay(customer), UNKNOWN);
            }
        });
        test("NONE if it owes nothing: at first, and when it has paid", () -> {
            IroningBaskets x = withBaskets(1);
            due(x.pay(0), NONE);
            x.iron(8);
            due(x.pay(0), NONE);
            x.pass(1);
            due(x.pay(0), 4);
            due(x.pay(0), NONE);
        });
        test("the coins: baskets and hangers together", () -> {
            IroningBaskets x = withCustomers(0);
            sendHangers(x, 0, 1);
            x.pass(15);
            due(x.pay(0), 3 + 2);
            due(x.count(16), 5);
        });
        test("hangers for no price are not owed", () -> {
            IroningBaskets x = withCustomers(0);
            x.set(3, 0);
            sendHangers(x, 0, 1);
            x.pay(0);
            x.pass(15);
            due(x.customerOf(0, 3), 1);
            due(x.pay(0), NONE);
        });
        test("a customer pays for itself", () -> {
            IroningBaskets x = withCustomers(0, 0);
            sendHangers(x, 0, 1);
            sendHangers(x, 1, 2);
            due(x.pay(1), 6);
            due(x.customerOf(0, 2), 3);
            due(x.count(15), 3);
        });
    }

    private static void promise12Set() {
        of("promise 12");
        test("which 0 to 3: BAD_VALUE outside and far away", () -> {
            IroningBaskets x = new IroningBaskets();
            for (int which : new int[] {-1, 4, Integer.MIN_VALUE, Integer.MAX_VALUE}) {
                due("set(" + which + ", 1)", x.set(which, 1), BAD_VALUE);
            }
        });
        test("value in its range: that of each setting is its own", () -> {
            IroningBaskets x = new IroningBaskets();
            due(x.set(0, 3), BAD_VALUE);
            due(x.set(1, 21), BAD_VALUE);
            due(x.set(2, 61), BAD_VALUE);
            due(x.set(3, 100), BAD_VALUE);
            due(x.set(2, 0), BAD_VALUE);
            due(x.set(1, 0), 3);
            due(x.set(3, 0), 2);
        });
        test("returns the previous one; NONE if it is so already", () -> {
            IroningBaskets x = new IroningBaskets();
            due(x.set(1, 3), NONE);
            due(x.set(1, 7), 3);
            due(x.set(1, 7), NONE);
            due(x.set(1, 3), 7);
        });
        test("the others keep theirs", () -> {
            IroningBaskets x = new IroningBaskets();
            x.set(2, 5);
            due(x.count(19), 0);
            due(x.count(20), 3);
            due(x.count(21), 5);
            due(x.count(22), 2);
        });
    }

    private static void promise13Type() {
        of("promise 13");
        test("the length then: from 1 to 60", () -> {
            IroningBaskets x = new IroningBaskets();
            for (int i = 1; i <= 60; i++) {
                due("type", x.type('s'), i);
            }
        });
        test("FULL if it has 60 characters: nothing is appended", () -> {
            IroningBaskets x = withText(times(12, "0:l1") + ";");
            due(x.type('x'), FULL);
            due(x.count(18), 60);
            due(x.fault(), 60);
        });
        test("any character: the lowest, the highest, and signs that look alike in their low byte", () -> {
            for (int sign : new int[] {0, 1, 9, 10, 127, 128, 233, 255, 256, 0x130, 0x1000 + '0', 65535}) {
                IroningBaskets x = new IroningBaskets();
                due("type " + sign, x.type((char) sign), 1);
                due("fault of " + sign, x.fault(), 0);
            }
        });
        test("it is not an act", () -> {
            IroningBaskets x = new IroningBaskets();
            x.type('0');
            due(x.undo(), NONE);
        });
    }

    private static void promise14ClearText() {
        of("promise 14");
        test("the length that it had: 0, 1 and 60", () -> {
            IroningBaskets x = new IroningBaskets();
            due(x.clearText(), 0);
            x.type('0');
            due(x.clearText(), 1);
            due(x.clearText(), 0);
            typeAll(x, times(12, "0:l1") + ";");
            due(x.clearText(), 60);
            due(x.clearText(), 0);
        });
        test("after a full text there is room for 60 again", () -> {
            IroningBaskets x = withText(times(12, "0:l1") + ";");
            x.clearText();
            due(x.type('0'), 1);
            typeAll(x, times(12, ":l1;") + "0:l1s");
            due(x.count(18), 60);
        });
        test("what was typed before is gone", () -> {
            IroningBaskets x = withText("0:s1b2*3-45");
            due(x.fault(), NONE);
            x.clearText();
            typeAll(x, "0:l");
            due(x.fault(), 3);
            x.type('1');
            x.customer(0);
            due(x.baskets(), 1);
            due(x.basketOf(0, 3), 1);
            due(x.basketOf(0, 2), 0);
            due(x.book(0, 3), 0);
        });
        test("it is not an act", () -> {
            IroningBaskets x = withText("0");
            x.clearText();
            due(x.undo(), NONE);
        });
    }

    private static void promise15Fault() {
        of("promise 15");
        test("NONE if it has none", () -> due(withText("0:s1").fault(), NONE));
        test("the index: from 0 to the length", () -> {
            due(withText("x:s1").fault(), 0);
            due(withText("0:s1x").fault(), 4);
            due(withText("0:s1;").fault(), 5);
        });
        test("a fault goes and comes as the text grows", () -> {
            IroningBaskets x = new IroningBaskets();
            String signs = "0:s1b2*3-45;1:l9";
            int[] faults = {1, 2, 3, NONE, 5, NONE, 7, NONE, 9, NONE, NONE, 12, 13, 14, 15, NONE};
            for (int i = 0; i < signs.length(); i++) {
                x.type(signs.charAt(i));
                due("fault after " + (i + 1), x.fault(), faults[i]);
            }
        });
        test("a fault stays where it is, whatever is typed behind it", () -> {
            IroningBaskets x = withText("0:q");
            due(x.fault(), 2);
            typeAll(x, "0:s1;0:s1");
            due(x.fault(), 2);
        });
        test("customers that there are not, and hangers that they have not, are no fault", () -> {
            due(withText("9:s1-99").fault(), NONE);
        });
    }

    private static void promise16Undo() {
        of("promise 16");
        test("NONE if the history is empty: at first, and when all is undone", () -> {
            IroningBaskets x = new IroningBaskets();
            due(x.undo(), NONE);
            x.customer(0);
            due(x.undo(), 0);
            due(x.undo(), NONE);
            due(x.count(1), 0);
        });
        test("the number of states that are left: 3, 2, 1, 0", () -> {
            IroningBaskets x = withCustomers(0, 1, 2, 3, 4);
            for (int left = 3; left >= 0; left--) {
                due("undo", x.undo(), left);
                due("customers", x.count(1), left + 1);
            }
            due(x.undo(), NONE);
            due(x.count(1), 1);
        });
        test("it is not an act: what was undone does not come back", () -> {
            IroningBaskets x = withCustomers(0, 1);
            x.undo();
            due(x.undo(), 0);
            due(x.count(1), 0);
        });
        test("after undo acts are recorded behind what is left", () -> {
            IroningBaskets x = withCustomers(0, 1, 2, 3, 4);
            x.undo();
            x.undo();
            x.pass(1);
            x.pass(1);
            x.pass(1);
            due(x.count(17), 4);
            x.undo();
            x.undo();
            x.undo();
            due(x.count(0), 0);
            due(x.count(1), 3);
            due(x.undo(), 0);
            due(x.count(1), 2);
        });
    }

    private static void promise17Keep() {
        of("promise 17");
        test("the day of now: 0, and the last", () -> {
            due(new IroningBaskets().keep(), 0);
            due(lateOn(9999).keep(), 9999);
        });
        test("in place of the one that was", () -> {
            IroningBaskets x = new IroningBaskets();
            x.keep();
            x.customer(0);
            x.keep();
            x.customer(0);
            x.restore();
            due(x.count(1), 1);
        });
        test("it is not an act, and changes nothing", () -> {
            IroningBaskets x = withBaskets(1111);
            x.lose(0, 2);
            String before = everythingAndMore(x);
            x.keep();
            due("what was before", everythingAndMore(x), before);
        });
        test("a state that is kept does not follow what comes after", () -> {
            IroningBaskets x = withBaskets(1111);
            x.lose(0, 2);
            String before = everything(x);
            x.keep();
            x.find(0, 0);
            x.iron(600);
            x.pass(3);
            x.restore();
            due("what was kept", everything(x), before);
        });
    }

    private static void promise18Restore() {
        of("promise 18");
        test("NONE if there is no snapshot", () -> {
            IroningBaskets x = withCustomers(0);
            due(x.restore(), NONE);
            due(x.count(17), 1);
            due(x.count(1), 1);
        });
        test("a snapshot of a new object is one", () -> {
            IroningBaskets x = new IroningBaskets();
            x.keep();
            x.pass(7);
            due(x.restore(), 0);
        });
        test("the snapshot stays: it can be restored again", () -> {
            IroningBaskets x = new IroningBaskets();
            x.pass(3);
            x.keep();
            for (int i = 0; i < 3; i++) {
                x.pass(5);
                due("restore " + i, x.restore(), 3);
            }
        });
        test("this is an act, also if nothing is changed", () -> {
            IroningBaskets x = new IroningBaskets();
            x.keep();
            due(x.restore(), 0);
            due(x.count(17), 1);
            due(x.undo(), 0);
        });
        test("a restore is undone: to the day that was", () -> {
            IroningBaskets x = new IroningBaskets();
            x.keep();
            x.pass(9);
            x.restore();
            x.undo();
            due(x.count(0), 9);
        });
        test("a snapshot of a later time can be restored in an earlier one", () -> {
            IroningBaskets x = withBaskets(1111);
            x.iron(23);
            x.pass(1);
            String later = everything(x);
            x.keep();
            x.undo();
            x.undo();
            due(x.count(0), 0);
            due(x.restore(), 1);
            due("what was kept", everything(x), later);
        });
        test("the day of now then: after the last day", () -> {
            IroningBaskets x = new IroningBaskets();
            x.keep();
            for (int i = 0; i < 101; i++) {
                x.pass(99);
            }
            due(x.pass(1), FULL);
            due(x.restore(), 0);
            due(x.pass(99), 0);
            due(x.count(0), 99);
        });
    }
}
