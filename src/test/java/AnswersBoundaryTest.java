/** The edges that the promises 19 to 30 name, a test for each: what is told, and what would be. */
public final class AnswersBoundaryTest extends Checks {
    public static void main(String[] args) {
        promise19CustomerOf();
        promise19NextVisit();
        promise20BasketOf();
        promise20Digits();
        promise21Lost();
        promise22Ordered();
        promise23Book();
        promise24Count();
        promise24CountsSoFar();
        promise25MeanMinutes();
        promise26IfIroned();
        promise26WhatWouldBe();
        promise27BestOrder();
        promise28HomeOn();
        promise28SixtyDays();
        promise29Wanting();
        promise30Sure();
        finish("AnswersBoundaryTest");
    }

    private static void promise19CustomerOf() {
        of("promise 19");
        test("a customer: UNKNOWN outside and far away", () -> {
            IroningBaskets x = withCustomers(0);
            for (int customer : new int[] {-1, 1, 10, Integer.MIN_VALUE, Integer.MAX_VALUE}) {
                due("customerOf(" + customer + ", 0)", x.customerOf(customer, 0), UNKNOWN);
            }
        });
        test("what 0 to 6: BAD_VALUE outside and far away", () -> {
            IroningBaskets x = withCustomers(0);
            for (int what : new int[] {-1, 7, Integer.MIN_VALUE, Integer.MAX_VALUE}) {
                due("customerOf(0, " + what + ")", x.customerOf(0, what), BAD_VALUE);
            }
        });
        test("a new customer has nothing: district, 0, 0, 0, 0, NONE, tomorrow", () -> {
            IroningBaskets x = withCustomers(4);
            int[] due = {4, 0, 0, 0, 0, NONE, 1};
            for (int what = 0; what <= 6; what++) {
                due("what " + what, x.customerOf(0, what), due[what]);
            }
        });
        test("NONE if none are out: when all came back, and when all were paid", () -> {
            IroningBaskets x = withCustomers(0);
            sendHangers(x, 0, 2);
            due(x.customerOf(0, 5), 1);
            x.basket(0, 1, 0, 2);
            due(x.customerOf(0, 5), NONE);
            sendHangers(x, 0, 2);
            due(x.customerOf(0, 5), 2);
            x.pass(15);
            due(x.customerOf(0, 5), NONE);
        });
        test("NONE if none are out: a basket of sheets takes none along", () -> {
            IroningBaskets x = withBaskets(9);
            x.iron(600);
            due(x.pass(1), 1);
            due(x.customerOf(0, 1), 0);
            due(x.customerOf(0, 5), NONE);
            x.pass(20);
            due(x.customerOf(0, 3), 0);
            due(x.book(0, 0), 1);
            sendHangers(x, 0, 1);
            due(x.customerOf(0, 5), 22);
        });
        test("hangers that it paid so far: of several days", () -> {
            IroningBaskets x = withCustomers(0);
            sendHangers(x, 0, 2);
            x.pass(20);
            sendHangers(x, 0, 3);
            due(x.customerOf(0, 3), 2);
            x.pass(20);
            due(x.customerOf(0, 3), 5);
        });
        test("its baskets that are here: 0 to 8", () -> {
            IroningBaskets x = withCustomers(0, 0);
            for (int i = 0; i < 8; i++) {
                due("baskets", x.customerOf(0, 4), i);
                x.basket(0, 1, 0, 0);
            }
            due(x.customerOf(0, 4), 8);
            due(x.customerOf(1, 4), 0);
        });
    }

    private static void promise19NextVisit() {
        of("promise 19");
        test("NONE if never", () -> {
            IroningBaskets x = withCustomers(0);
            x.visit(0, 0);
            due(x.customerOf(0, 6), NONE);
        });
        test("from tomorrow on: today alone is a week from now", () -> {
            IroningBaskets x = withCustomers(0);
            x.visit(0, 1);
            due(x.customerOf(0, 6), 7);
            x.visit(0, 2);
            due(x.customerOf(0, 6), 1);
            x.visit(0, 3);
            due(x.customerOf(0, 6), 1);
        });
        test("the next one of several, around the week", () -> {
            IroningBaskets x = withCustomers(0);
            x.visit(0, 1 | 1 << 4);
            int[] due = {4, 4, 4, 4, 7, 7, 7, 11, 11};
            for (int day = 0; day < due.length; day++) {
                due("on the day " + day, x.customerOf(0, 6), due[day]);
                x.pass(1);
            }
        });
        test("its own district's", () -> {
            IroningBaskets x = withCustomers(1, 3);
            x.visit(3, 1 << 5);
            due(x.customerOf(0, 6), 1);
            due(x.customerOf(1, 6), 5);
        });
    }

    private static void promise20BasketOf() {
        of("promise 20");
        test("a basket that is here: UNKNOWN before it comes, after it left, and far away", () -> {
            IroningBaskets x = withBaskets(1, 2);
            for (int basket : new int[] {-1, 2, 99, Integer.MIN_VALUE, Integer.MAX_VALUE}) {
                due("basketOf(" + basket + ", 0)", x.basketOf(basket, 0), UNKNOWN);
            }
            x.iron(8);
            x.pass(1);
            due(x.basketOf(0, 0), UNKNOWN);
            due(x.basketOf(1, 0), 0);
        });
        test("after undo it is here again", () -> {
            IroningBaskets x = withBaskets(1);
            x.iron(8);
            x.pass(1);
            x.undo();
            due(x.basketOf(0, 6), 1);
        });
        test("what 0 to 9: BAD_VALUE outside and far away", () -> {
            IroningBaskets x = withBaskets(1);
            for (int what : new int[] {-1, 10, Integer.MIN_VALUE, Integer.MAX_VALUE}) {
                due("basketOf(0, " + what + ")", x.basketOf(0, what), BAD_VALUE);
            }
        });
        test("the day on which it came: 0, and later", () -> {
            IroningBaskets x = withBaskets(1);
            x.pass(9);
            x.basket(0, 1, 0, 0);
            due(x.basketOf(0, 9), 0);
            due(x.basketOf(1, 9), 9);
        });
        test("whether it is ready (1, otherwise 0)", () -> {
            IroningBaskets x = withBaskets(1);
            due(x.basketOf(0, 6), 0);
            x.iron(8);
            due(x.basketOf(0, 6), 1);
        });
        test("its price does not change as it is ironed, nor as a piece is lost", () -> {
            IroningBaskets x = withBaskets(1111);
            due(x.basketOf(0, 7), 12);
            x.lose(0, 3);
            x.iron(600);
            due(x.basketOf(0, 7), 12);
        });
        test("its pin does not change as others leave", () -> {
            IroningBaskets x = withBaskets(1, 2, 2);
            x.iron(8);
            x.pass(1);
            due(x.basketOf(1, 1), 1);
            due(x.basketOf(2, 1), 2);
        });
    }

    private static void promise20Digits() {
        of("promise 20");
        test("as four decimal digits: leading kinds without pieces are no digits", () -> {
            int[] all = {1, 10, 100, 1000, 9, 90, 900, 9000, 9999, 8070, 101};
            for (int pieces : all) {
                due("pieces " + pieces, withBaskets(pieces).basketOf(0, 3), pieces);
            }
        });
        test("those that are ironed: from none to all, kind by kind", () -> {
            IroningBaskets x = withBaskets(9999);
            due(x.basketOf(0, 4), 0);
            x.iron(9 * 5);
            due(x.basketOf(0, 4), 9000);
            x.iron(9 * 4);
            due(x.basketOf(0, 4), 9900);
            x.iron(9 * 6);
            due(x.basketOf(0, 4), 9990);
            x.iron(9 * 8);
            due(x.basketOf(0, 4), 9999);
        });
        test("those that it misses: from none to all of a kind", () -> {
            IroningBaskets x = withBaskets(9009);
            due(x.basketOf(0, 5), 0);
            for (int i = 1; i <= 9; i++) {
                x.lose(0, 0);
                x.lose(0, 3);
                due("missed", x.basketOf(0, 5), i * 1001);
            }
        });
        test("the minutes of its pieces that are neither ironed nor missed: from all to 0", () -> {
            IroningBaskets x = withCustomers(0);
            x.basket(0, 1111, 1, 0);
            due(x.basketOf(0, 8), 6 + 5 + 6 + 8);
            x.lose(0, 3);
            due(x.basketOf(0, 8), 6 + 5 + 6);
            x.iron(9);
            due(x.basketOf(0, 8), 5 + 6);
            x.iron(600);
            due(x.basketOf(0, 8), 0);
            x.find(0, 0);
            due(x.basketOf(0, 8), 8);
        });
    }

    private static void promise21Lost() {
        of("promise 21");
        test("a lost piece: UNKNOWN without any, below 0 and behind the last", () -> {
            IroningBaskets x = withBaskets(1111);
            due(x.lost(0, 0), UNKNOWN);
            x.lose(0, 0);
            for (int piece : new int[] {-1, 1, 20, Integer.MIN_VALUE, Integer.MAX_VALUE}) {
                due("lost(" + piece + ", 0)", x.lost(piece, 0), UNKNOWN);
            }
            due(x.lost(0, 0), 0);
        });
        test("what 0 to 3: BAD_VALUE outside and far away", () -> {
            IroningBaskets x = withBaskets(1);
            x.lose(0, 3);
            for (int what : new int[] {-1, 4, Integer.MIN_VALUE, Integer.MAX_VALUE}) {
                due("lost(0, " + what + ")", x.lost(0, what), BAD_VALUE);
            }
        });
        test("how many baskets it can belong to: 1 to 8", () -> {
            IroningBaskets x = withBaskets(1, 1, 1, 1, 1, 1, 1, 1);
            for (int i = 7; i >= 0; i--) {
                x.lose(i, 3);
                due("baskets", x.lost(0, 2), 8 - i);
                due("the lowest", x.lost(0, 3), i);
            }
        });
        test("a basket that misses two of them is one basket", () -> {
            IroningBaskets x = withBaskets(2, 1);
            x.lose(0, 3);
            x.lose(0, 3);
            due(x.lost(0, 2), 1);
            due(x.lost(1, 2), 1);
            x.lose(1, 3);
            due(x.lost(0, 2), 2);
            x.find(0, 0);
            due(x.lost(0, 2), 2);
            x.find(0, 0);
            due(x.lost(0, 2), 1);
            due(x.lost(0, 3), 1);
        });
        test("the lowest of these: by the number, not by the pin", () -> {
            IroningBaskets x = withBaskets(1, 2);
            x.iron(8);
            x.pass(1);
            x.basket(0, 2, 0, 0);
            due(x.basketOf(2, 1), 0);
            x.lose(2, 3);
            due(x.lost(0, 3), 2);
            x.lose(1, 3);
            due(x.lost(0, 3), 1);
        });
        test("the twentieth is told", () -> {
            IroningBaskets x = withBaskets(9900, 29);
            for (int i = 0; i < 18; i++) {
                x.lose(0, i / 9);
            }
            x.lose(1, 2);
            x.lose(1, 3);
            due(x.lost(18, 0), 2);
            due(x.lost(19, 0), 3);
            due(x.lost(20, 0), UNKNOWN);
        });
    }

    private static void promise22Ordered() {
        of("promise 22");
        test("BAD_VALUE if rank is negative", () -> {
            IroningBaskets x = withBaskets(1);
            due(x.ordered(-1), BAD_VALUE);
            due(x.ordered(Integer.MIN_VALUE), BAD_VALUE);
        });
        test("NONE if there are not so many: none, one, and eight", () -> {
            due(new IroningBaskets().ordered(0), NONE);
            IroningBaskets x = withBaskets(1);
            due(x.ordered(0), 0);
            due(x.ordered(1), NONE);
            due(x.ordered(Integer.MAX_VALUE), NONE);
            x = withBaskets(1, 1, 1, 1, 1, 1, 1, 1);
            due(x.ordered(7), 7);
            due(x.ordered(8), NONE);
        });
        test("by the order: ready baskets are here, too, and come first by minutes", () -> {
            IroningBaskets x = withBaskets(1, 100);
            x.set(0, 2);
            due(x.ordered(0), 1);
            x.iron(12);
            due(x.ordered(0), 0);
            due(x.ordered(1), 1);
        });
        test("numbers and not places: when lower ones have left", () -> {
            IroningBaskets x = withBaskets(1, 2, 3);
            x.iron(8);
            x.pass(1);
            due(x.ordered(0), 1);
            due(x.ordered(1), 2);
            due(x.ordered(2), NONE);
        });
        test("eight of as many minutes by numbers", () -> {
            IroningBaskets x = withBaskets(1, 1, 1, 1, 1, 1, 1, 1);
            x.set(0, 2);
            for (int rank = 0; rank < 8; rank++) {
                due("rank " + rank, x.ordered(rank), rank);
            }
            x.set(0, 1);
            for (int rank = 0; rank < 8; rank++) {
                due("rank " + rank, x.ordered(rank), rank);
            }
        });
    }

    private static void promise23Book() {
        of("promise 23");
        test("ago 0 to 9: BAD_VALUE outside and far away", () -> {
            IroningBaskets x = withBaskets(1);
            for (int ago : new int[] {-1, 10, Integer.MIN_VALUE, Integer.MAX_VALUE}) {
                due("book(" + ago + ", 0)", x.book(ago, 0), BAD_VALUE);
            }
        });
        test("what 0 to 3: BAD_VALUE outside and far away", () -> {
            IroningBaskets x = withBaskets(1);
            for (int what : new int[] {-1, 4, Integer.MIN_VALUE, Integer.MAX_VALUE}) {
                due("book(0, " + what + ")", x.book(0, what), BAD_VALUE);
            }
        });
        test("NONE if it does not know so many: one fewer is known", () -> {
            IroningBaskets x = withBaskets(1, 1, 1);
            due(x.book(2, 0), 0);
            due(x.book(3, 0), NONE);
            due(x.book(9, 0), NONE);
        });
        test("to 9: the tenth latest is known, an eleventh never", () -> {
            IroningBaskets x = withBaskets(9);
            for (int i = 0; i < 10; i++) {
                x.lose(0, 3);
                x.find(0, 0);
            }
            due(x.book(9, 0), 3);
            due(x.book(10, 0), BAD_VALUE);
        });
    }

    private static void promise24Count() {
        of("promise 24");
        test("what 0 to 22: BAD_VALUE outside and far away", () -> {
            IroningBaskets x = new IroningBaskets();
            for (int what : new int[] {-1, 23, Integer.MIN_VALUE, Integer.MAX_VALUE}) {
                due("count(" + what + ")", x.count(what), BAD_VALUE);
            }
            due(x.count(0), 0);
            due(x.count(22), 2);
        });
        test("customers from 0 to 10", () -> {
            due(new IroningBaskets().count(1), 0);
            due(withCustomers(0, 0, 0, 0, 0, 0, 0, 0, 0, 0).count(1), 10);
        });
        test("baskets that are here from 0 to 8, those that are ready", () -> {
            IroningBaskets x = withBaskets(1, 1, 1, 1, 1, 1, 1, 1);
            due(x.count(2), 8);
            due(x.count(3), 0);
            x.iron(56);
            due(x.count(3), 7);
            x.iron(8);
            due(x.count(3), 8);
            x.pass(1);
            due(x.count(2), 0);
            due(x.count(3), 0);
            due(x.count(4), 8);
        });
        test("hangers: in stock, on pieces, out, paid and bought are told apart", () -> {
            IroningBaskets x = withCustomers(0, 1);
            x.visit(1, 0);
            x.buy(4);
            sendHangers(x, 0, 2);
            x.pass(15);
            sendHangers(x, 0, 3);
            x.basket(1, 40, 0, 0);
            x.iron(24);
            int[] due = {64 - 2 - 3 - 4, 4, 3, 2, 4};
            for (int i = 0; i < 5; i++) {
                due("count(" + (5 + i) + ")", x.count(5 + i), due[i]);
            }
        });
        test("states in the history from 0 to 4, the length of the text from 0 to 60", () -> {
            IroningBaskets x = new IroningBaskets();
            due(x.count(17), 0);
            due(x.count(18), 0);
            for (int i = 0; i < 5; i++) {
                x.pass(1);
            }
            for (int i = 0; i < 61; i++) {
                x.type('0');
            }
            due(x.count(17), 4);
            due(x.count(18), 60);
        });
        test("19 to 22 for the settings, in their order", () -> {
            IroningBaskets x = new IroningBaskets();
            x.set(0, 1);
            x.set(1, 20);
            x.set(2, 60);
            x.set(3, 99);
            int[] due = {1, 20, 60, 99};
            for (int i = 0; i < 4; i++) {
                due("count(" + (19 + i) + ")", x.count(19 + i), due[i]);
            }
        });
    }

    private static void promise24CountsSoFar() {
        of("promise 24");
        test("how often it was stirred anew so far: without minutes, too", () -> {
            IroningBaskets x = withCustomers(0);
            x.set(1, 0);
            x.basket(0, 1000, 1, 0);
            x.basket(0, 1000, 2, 0);
            x.iron(600);
            due(x.count(11), 2);
            due(x.count(12), 2);
            due(x.count(14), 13);
        });
        test("minutes ironed so far (with stirring): those that are left are none", () -> {
            IroningBaskets x = withCustomers(0);
            x.basket(0, 2000, 1, 0);
            x.iron(14);
            due(x.count(14), 9);
            x.iron(600);
            due(x.count(14), 15);
        });
        test("pieces ironed so far: those that left count", () -> {
            IroningBaskets x = withBaskets(3);
            x.iron(600);
            x.pass(1);
            due(x.count(13), 3);
            due(x.count(14), 24);
        });
        test("coins owed by all customers, coins paid so far", () -> {
            IroningBaskets x = withCustomers(0, 0);
            sendHangers(x, 0, 1);
            sendHangers(x, 1, 1);
            due(x.count(15), 6);
            due(x.count(16), 0);
            x.pay(0);
            due(x.count(15), 3);
            due(x.count(16), 3);
            x.pay(1);
            due(x.count(15), 0);
            due(x.count(16), 6);
        });
        test("so far: undo takes it back", () -> {
            IroningBaskets x = withBaskets(1000);
            String before = everything(x);
            x.buy(9);
            x.iron(5);
            x.pass(1);
            x.pay(0);
            for (int i = 0; i < 4; i++) {
                x.undo();
            }
            due("all counts", everything(x), before);
        });
    }

    private static void promise25MeanMinutes() {
        of("promise 25");
        test("0.0f without any", () -> {
            due("at first", new IroningBaskets().meanMinutes(), 0.0f);
            IroningBaskets x = withBaskets(1);
            x.iron(7);
            due("nothing ironed", x.meanMinutes(), 0.0f);
            x.iron(8);
            due("one", x.meanMinutes(), 8.0f);
            x.undo();
            due("none again", x.meanMinutes(), 0.0f);
        });
        test("with stirring", () -> {
            IroningBaskets x = withCustomers(0);
            x.basket(0, 2000, 1, 0);
            x.iron(9);
            due("9 for one", x.meanMinutes(), 9.0f);
            x.iron(6);
            due("15 for two", x.meanMinutes(), 7.5f);
        });
        test("divided as floats: no whole number", () -> {
            IroningBaskets x = withBaskets(1001, 100);
            x.iron(600);
            due("17 for three", x.meanMinutes(), 17.0f / 3.0f);
        });
    }

    private static void promise26IfIroned() {
        of("promise 26");
        test("order 0 to 2: BAD_VALUE outside and far away", () -> {
            IroningBaskets x = withBaskets(1);
            for (int order : new int[] {-1, 3, Integer.MIN_VALUE, Integer.MAX_VALUE}) {
                due("ifIroned(" + order + ", 8, 0)", x.ifIroned(order, 8, 0), BAD_VALUE);
            }
            for (int order = 0; order <= 2; order++) {
                due("ifIroned(" + order + ", 8, 0)", x.ifIroned(order, 8, 0), 1);
            }
        });
        test("minutes 1 to 600: BAD_VALUE outside and far away", () -> {
            IroningBaskets x = withBaskets(1);
            for (int minutes : new int[] {0, 601, -1, Integer.MIN_VALUE, Integer.MAX_VALUE}) {
                due("ifIroned(0, " + minutes + ", 0)", x.ifIroned(0, minutes, 0), BAD_VALUE);
            }
            due(x.ifIroned(0, 1, 0), 0);
            due(x.ifIroned(0, 600, 0), 1);
        });
        test("what 0 to 2: BAD_VALUE outside and far away", () -> {
            IroningBaskets x = withBaskets(1);
            for (int what : new int[] {-1, 3, Integer.MIN_VALUE, Integer.MAX_VALUE}) {
                due("ifIroned(0, 8, " + what + ")", x.ifIroned(0, 8, what), BAD_VALUE);
            }
        });
        test("without anything to iron all is 0", () -> {
            for (int what = 0; what <= 2; what++) {
                due("ifIroned(1, 600, " + what + ")", new IroningBaskets().ifIroned(1, 600, what), 0);
            }
        });
        test("one minute too few, and enough", () -> {
            IroningBaskets x = withCustomers(0);
            x.basket(0, 1000, 1, 0);
            int[] few = {0, 0, 0};
            int[] enough = {1, 1, 1};
            for (int what = 0; what <= 2; what++) {
                due("8 minutes, " + what, x.ifIroned(0, 8, what), few[what]);
                due("9 minutes, " + what, x.ifIroned(0, 9, what), enough[what]);
            }
        });
    }

    private static void promise26WhatWouldBe() {
        of("promise 26");
        test("nothing is changed, and nothing recorded", () -> {
            IroningBaskets x = withBaskets(1111, 1111);
            x.lose(0, 1);
            x.set(0, 1);
            String before = everythingAndMore(x);
            for (int order = 0; order <= 2; order++) {
                x.ifIroned(order, 600, 0);
            }
            due("what was before", everythingAndMore(x), before);
        });
        test("with another order: the setting does not matter", () -> {
            IroningBaskets x = withBaskets(9, 1);
            for (int setting = 0; setting <= 2; setting++) {
                x.set(0, setting);
                due("by numbers", x.ifIroned(0, 8, 1), 0);
                due("by minutes", x.ifIroned(2, 8, 1), 1);
            }
        });
        test("how many baskets are ready then: those that are ready already, too", () -> {
            IroningBaskets x = withBaskets(1, 9);
            x.iron(8);
            due(x.ifIroned(0, 1, 1), 1);
            due(x.ifIroned(0, 600, 1), 2);
        });
        test("how often the pot would be stirred: in these minutes, not before", () -> {
            IroningBaskets x = withCustomers(0);
            x.basket(0, 1000, 1, 0);
            x.basket(0, 1000, 2, 0);
            x.basket(0, 1000, 1, 0);
            due(x.ifIroned(0, 600, 2), 3);
            x.iron(9);
            due(x.ifIroned(0, 600, 2), 2);
            due(x.ifIroned(0, 9, 2), 0);
            due(x.ifIroned(0, 10, 2), 1);
        });
        test("hangers that are wanting, and lost pieces, hold there, too", () -> {
            IroningBaskets x = withBaskets(9990, 9990, 7002);
            x.lose(2, 3);
            due(x.ifIroned(0, 600, 0), 61);
            due(x.ifIroned(0, 600, 1), 2);
        });
    }

    private static void promise27BestOrder() {
        of("promise 27");
        test("minutes 1 to 600: BAD_VALUE outside and far away", () -> {
            IroningBaskets x = withBaskets(9, 1);
            for (int minutes : new int[] {0, 601, -1, Integer.MIN_VALUE, Integer.MAX_VALUE}) {
                due("bestOrder(" + minutes + ")", x.bestOrder(minutes), BAD_VALUE);
            }
            due(x.bestOrder(1), 0);
            due(x.bestOrder(600), 0);
        });
        test("of several the lowest: without baskets 0", () -> due(new IroningBaskets().bestOrder(600), 0));
        test("the most baskets are ready: one more decides, whatever the pieces are", () -> {
            // By numbers five shirts in 25 minutes and none ready; by minutes three sheets and one ready.
            IroningBaskets x = withBaskets(9000, 3);
            due(x.ifIroned(0, 25, 0), 5);
            due(x.ifIroned(2, 25, 0), 3);
            due(x.bestOrder(25), 2);
            due(x.bestOrder(23), 0);
        });
        test("the most baskets are ready: a later order with fewer is not better", () -> {
            IroningBaskets x = withCustomers(0, 1);
            x.visit(0, 0);
            x.basket(0, 1, 0, 0);
            x.basket(1, 9, 0, 0);
            due(x.ifIroned(0, 8, 1), 1);
            due(x.ifIroned(1, 8, 1), 0);
            due(x.ifIroned(2, 8, 1), 1);
            due(x.bestOrder(8), 0);
        });
        test("the most baskets are ready: 1 may be the only one, as stirring does not count for 2", () -> {
            IroningBaskets x = withCustomers(0, 1);
            x.visit(0, 0);
            x.set(1, 20);
            x.basket(0, 9, 0, 0);
            x.basket(1, 10, 0, 0);
            x.basket(0, 100, 1, 0);
            due(x.ifIroned(2, 6, 1), 0);
            due(x.bestOrder(5), 0);
            due(x.bestOrder(6), 1);
        });
        test("of several the one with the most pieces: one more decides", () -> {
            IroningBaskets x = withCustomers(0, 1);
            x.visit(0, 0);
            x.basket(0, 9, 0, 0);
            x.basket(1, 9000, 0, 0);
            due(x.bestOrder(8), 0);
            due(x.bestOrder(9), 0);
            due(x.bestOrder(10), 1);
        });
        test("of several the lowest: 1 and 2 are alike, and better than 0", () -> {
            IroningBaskets x = withCustomers(0, 1);
            x.visit(0, 0);
            x.basket(0, 9, 0, 0);
            x.basket(1, 1, 0, 0);
            due(x.ifIroned(1, 8, 1), 1);
            due(x.ifIroned(2, 8, 1), 1);
            due(x.bestOrder(8), 1);
        });
        test("the setting does not matter, and nothing is changed", () -> {
            IroningBaskets x = withBaskets(9, 1);
            x.set(0, 1);
            String before = everythingAndMore(x);
            due(x.bestOrder(8), 2);
            due("what was before", everythingAndMore(x), before);
        });
    }

    private static void promise28HomeOn() {
        of("promise 28");
        test("a basket that is here: UNKNOWN before it comes, after it left, and far away", () -> {
            IroningBaskets x = withBaskets(1);
            for (int basket : new int[] {-1, 1, 99, Integer.MIN_VALUE, Integer.MAX_VALUE}) {
                due("homeOn(" + basket + ", 8)", x.homeOn(basket, 8), UNKNOWN);
            }
            x.iron(8);
            x.pass(1);
            due(x.homeOn(0, 8), UNKNOWN);
        });
        test("minutes 1 to 600: BAD_VALUE outside and far away", () -> {
            IroningBaskets x = withBaskets(1);
            for (int minutes : new int[] {0, 601, -1, Integer.MIN_VALUE, Integer.MAX_VALUE}) {
                due("homeOn(0, " + minutes + ")", x.homeOn(0, minutes), BAD_VALUE);
            }
            due(x.homeOn(0, 1), NONE);
            due(x.homeOn(0, 600), 1);
        });
        test("from the day of now on: today is ironed, and tomorrow it is taken", () -> {
            IroningBaskets x = withBaskets(2);
            x.pass(4);
            due(x.homeOn(0, 16), 5);
            due(x.homeOn(0, 15), 6);
        });
        test("one that is ready waits for the van alone", () -> {
            IroningBaskets x = withBaskets(1);
            x.iron(8);
            due(x.homeOn(0, 1), 1);
            x.visit(0, 1);
            due(x.homeOn(0, 1), 7);
        });
        test("minutes that are left on a day are lost, and the pot keeps its degree", () -> {
            IroningBaskets x = withCustomers(0);
            x.basket(0, 2000, 1, 0);
            due(x.homeOn(0, 8), NONE);
            due(x.homeOn(0, 9), 2);
            due(x.homeOn(0, 15), 1);
        });
        test("by the order of the setting", () -> {
            IroningBaskets x = withBaskets(9, 1);
            due(x.homeOn(1, 8), 10);
            x.set(0, 2);
            due(x.homeOn(1, 8), 1);
            due(x.homeOn(0, 8), 10);
        });
        test("and nothing else is done: a lost piece is not found", () -> {
            IroningBaskets x = withBaskets(2);
            x.lose(0, 3);
            due(x.homeOn(0, 600), NONE);
            x.find(0, 0);
            due(x.homeOn(0, 600), 1);
        });
        test("nothing is changed, and nothing recorded", () -> {
            IroningBaskets x = withBaskets(9999, 1);
            x.lose(1, 3);
            String before = everythingAndMore(x);
            x.homeOn(0, 600);
            x.homeOn(1, 600);
            due("what was before", everythingAndMore(x), before);
        });
    }

    private static void promise28SixtyDays() {
        of("promise 28");
        for (int now : new int[] {0, 1, 50}) {
            test("NONE if it is not within 60 days: the sixtieth day is, from the day " + now, () -> {
                IroningBaskets x = withBaskets(9, 9, 9, 9, 9, 9, 6, 1);
                x.pass(now == 0 ? 1 : now);
                if (now == 0) {
                    x.undo();
                }
                due(x.homeOn(5, 8), now + 54);
                due(x.homeOn(6, 8), now + 60);
                due(x.homeOn(7, 8), NONE);
            });
        }
        test("NONE if the van never comes", () -> {
            IroningBaskets x = withBaskets(1);
            x.visit(0, 0);
            due(x.homeOn(0, 600), NONE);
        });
        test("NONE if there are no hangers: those that are out do not come back", () -> {
            IroningBaskets x = withBaskets(9990, 9990, 7000);
            due(x.homeOn(2, 600), NONE);
            x.buy(1);
            due(x.homeOn(2, 600), 1);
        });
        test("on the last day that can pass: it is taken on the day after", () -> {
            IroningBaskets x = lateOn(9999);
            x.customer(0);
            x.basket(0, 1, 0, 0);
            due(x.homeOn(0, 8), 10000);
        });
    }

    private static void promise29Wanting() {
        of("promise 29");
        test("0 if there are enough: none is wanted, 60 of 60, one too many", () -> {
            due(new IroningBaskets().wanting(), 0);
            due(withBaskets(9990, 9990, 6000).wanting(), 0);
            due(withBaskets(9990, 9990, 7000).wanting(), 1);
        });
        test("all pieces that are here and take one: sheets do not", () -> {
            due(withBaskets(9990, 9990, 6009).wanting(), 0);
        });
        for (int kind = 0; kind < 3; kind++) {
            int one = kind == 0 ? 1000 : kind == 1 ? 100 : 10;
            test("a piece of the kind " + kind + " takes one", () -> {
                due(withBaskets(9990, 9990, 6000, one).wanting(), 1);
            });
        }
        test("and are not ironed: ironed ones have theirs", () -> {
            IroningBaskets x = withBaskets(9990, 9990, 9000);
            due(x.wanting(), 3);
            x.iron(100);
            due(x.wanting(), 3);
            x.iron(600);
            due(x.count(5), 0);
            due(x.wanting(), 3);
            x.buy(3);
            due(x.wanting(), 0);
        });
        test("lost ones, too", () -> {
            IroningBaskets x = withBaskets(9990, 9990, 7000);
            x.lose(2, 0);
            due(x.wanting(), 1);
            x.iron(600);
            due(x.count(5), 0);
            due(x.wanting(), 1);
        });
        test("the most that can be wanting", () -> {
            IroningBaskets x = withBaskets(9990, 9990, 9990, 9990, 9990, 9990, 9990, 9990);
            due(x.wanting(), 8 * 27 - 60);
        });
        test("hangers that are out do not help, those given back do", () -> {
            IroningBaskets x = withBaskets(9990, 9990, 6000);
            x.iron(600);
            x.pass(1);
            x.basket(0, 10, 0, 0);
            due(x.wanting(), 1);
            x.basket(0, 1, 0, 1);
            due(x.wanting(), 0);
        });
    }

    private static void promise30Sure() {
        of("promise 30");
        test("0 if nothing is lost", () -> {
            due(new IroningBaskets().sure(), 0);
            due(withBaskets(1111).sure(), 0);
        });
        test("one basket only: two are not one", () -> {
            IroningBaskets x = withBaskets(2, 1);
            x.lose(0, 3);
            due(x.sure(), 1);
            x.lose(0, 3);
            due(x.sure(), 2);
            x.lose(1, 3);
            due(x.sure(), 0);
            x.find(0, 1);
            due(x.sure(), 2);
        });
        test("of another degree, or another kind, they do not count", () -> {
            IroningBaskets x = withCustomers(0);
            x.basket(0, 1111, 1, 0);
            x.basket(0, 1111, 2, 0);
            x.lose(0, 0);
            x.lose(1, 0);
            due(x.sure(), 2);
            x.lose(0, 2);
            x.lose(1, 3);
            due(x.sure(), 4);
            x.lose(1, 2);
            due(x.sure(), 3);
        });
        test("20 lost pieces can all be sure", () -> {
            IroningBaskets x = withBaskets(9992);
            for (int i = 0; i < 20; i++) {
                x.lose(0, i < 18 ? i / 9 : 2);
            }
            due(x.sure(), 20);
        });
    }
}
