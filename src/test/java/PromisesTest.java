/** For each promise of the document: ordinary calls, the edges that it names, and wrong arguments. */
public final class PromisesTest extends Checks {
    public static void main(String[] args) {
        promise1NewObject();
        promise2Customer();
        promise3Visit();
        promise4Basket();
        promise4GivesBackTheOldestFirst();
        promise5Baskets();
        promise5AllOrNone();
        promise6Lose();
        promise7Find();
        promise8Iron();
        promise8Hangers();
        promise8Orders();
        promise9Pass();
        promise9Van();
        promise9Payments();
        promise10Buy();
        promise11Pay();
        promise12Set();
        promise13Type();
        promise14ClearText();
        promise15Fault();
        promise16Undo();
        promise16UndoBringsBackHangersAndPins();
        promise17And18KeepRestore();
        promise18PlacesAreUsedAgain();
        promise19CustomerOf();
        promise20BasketOf();
        promise21Lost();
        promise22Ordered();
        promise23Book();
        promise24Count();
        promise25MeanMinutes();
        promise26IfIroned();
        promise27BestOrder();
        promise28HomeOn();
        promise29Wanting();
        promise30Sure();
        finish("PromisesTest");
    }

    private static void dueFault(String signs, int want) {
        IroningBaskets x = withText(signs);
        due("fault of \"" + signs + "\"", x.fault(), want);
    }

    private static void promise1NewObject() {
        of("promise 1");
        due("UNKNOWN", IroningBaskets.UNKNOWN, -1);
        due("BAD_VALUE", IroningBaskets.BAD_VALUE, -2);
        due("FULL", IroningBaskets.FULL, -3);
        due("NOT_POSSIBLE", IroningBaskets.NOT_POSSIBLE, -4);
        due("NONE", IroningBaskets.NONE, -5);
        IroningBaskets x = new IroningBaskets();
        int[] first = {0, 0, 0, 0, 0, 60, 0, 0, 0, 0, 0, 0, 0, 0, 0, 0, 0, 0, 0, 0, 3, 14, 2};
        for (int what = 0; what < first.length; what++) {
            due("count(" + what + ") of a new object", x.count(what), first[what]);
        }
        due("customerOf(0, 0)", x.customerOf(0, 0), UNKNOWN);
        due("basketOf(0, 0)", x.basketOf(0, 0), UNKNOWN);
        due("ordered(0)", x.ordered(0), NONE);
        due("book(0, 0)", x.book(0, 0), NONE);
        for (int district = 0; district < 5; district++) {
            due("visit(" + district + ", 127)", x.visit(district, 127), NONE);
        }
    }

    private static void promise2Customer() {
        of("promise 2");
        IroningBaskets x = new IroningBaskets();
        due("customer(-1)", x.customer(-1), UNKNOWN);
        due("customer(5)", x.customer(5), UNKNOWN);
        due("customer(MIN)", x.customer(Integer.MIN_VALUE), UNKNOWN);
        for (int i = 0; i < 10; i++) {
            due("customer " + i, x.customer(i % 5), i);
            due("its district", x.customerOf(i, 0), i % 5);
            due("its coins", x.customerOf(i, 2), 0);
        }
        due("an eleventh", x.customer(0), FULL);
        due("the district is looked at first", x.customer(5), UNKNOWN);
        due("count(1)", x.count(1), 10);
        due("count(17)", x.count(17), 4);
        due("undo", x.undo(), 3);
        due("count(1)", x.count(1), 9);
    }

    private static void promise3Visit() {
        of("promise 3");
        IroningBaskets x = new IroningBaskets();
        due("visit(-1, 1)", x.visit(-1, 1), UNKNOWN);
        due("visit(5, 1)", x.visit(5, 1), UNKNOWN);
        due("visit(5, 128)", x.visit(5, 128), UNKNOWN);
        due("visit(0, 128)", x.visit(0, 128), BAD_VALUE);
        due("visit(0, -1)", x.visit(0, -1), BAD_VALUE);
        due("visit(0, 127)", x.visit(0, 127), NONE);
        due("nothing was recorded", x.count(17), 0);
        due("visit(0, 0)", x.visit(0, 0), 127);
        due("visit(0, 5)", x.visit(0, 5), 0);
        due("visit(4, 5)", x.visit(4, 5), 127);
        due("visit(0, 5)", x.visit(0, 5), NONE);
        due("visit(0, 127)", x.visit(0, 127), 5);
        due("count(17)", x.count(17), 4);
    }

    private static void promise4Basket() {
        of("promise 4");
        IroningBaskets x = withCustomers(0, 1);
        due("basket(2, ..)", x.basket(2, 1, 0, 0), UNKNOWN);
        due("basket(-1, ..)", x.basket(-1, 0, 9, 999), UNKNOWN);
        due("no pieces", x.basket(0, 0, 0, 0), BAD_VALUE);
        due("minus pieces", x.basket(0, -1111, 0, 0), BAD_VALUE);
        due("too many pieces", x.basket(0, 10000, 0, 0), BAD_VALUE);
        due("starch -1", x.basket(0, 1, -1, 0), BAD_VALUE);
        due("starch 4", x.basket(0, 1, 4, 0), BAD_VALUE);
        due("hangers -1", x.basket(0, 1, 0, -1), BAD_VALUE);
        due("hangers 100", x.basket(0, 1, 0, 100), BAD_VALUE);
        due("hangers that it has not", x.basket(0, 1, 0, 1), NOT_POSSIBLE);
        due("nothing came", x.count(4), 0);
        for (int i = 0; i < 8; i++) {
            due("basket " + i, x.basket(i % 2, 1, 0, 0), i);
            due("its pin", x.basketOf(i, 1), i);
        }
        due("a ninth", x.basket(0, 1, 0, 0), FULL);
        due("those of customer 0", x.customerOf(0, 4), 4);
        due("none is ready", x.count(3), 0);
        due("no hangers are on pieces", x.count(6), 0);
        due("a ninth is not told", x.basketOf(8, 0), UNKNOWN);
        due("nor ordered", x.ordered(8), NONE);
        due("nor home", x.homeOn(8, 1), UNKNOWN);
        due("none is wanting", x.wanting(), 0);
        due("NOT_POSSIBLE before FULL", x.basket(0, 1, 0, 1), NOT_POSSIBLE);
        x.visit(1, 0);
        x.iron(600);
        x.pass(1);
        due("those of customer 1 are here", x.count(2), 4);
        due("basket(0, 9999, 3, 0)", x.basket(0, 9999, 3, 0), 8);
        due("the lowest free pin", x.basketOf(8, 1), 0);
        due("basket(0, 1, 0, 0)", x.basket(0, 1, 0, 0), 9);
        due("the next free pin", x.basketOf(9, 1), 2);
        // Ninety-nine baskets ever: those that left count, too.
        x = withCustomers(0);
        for (int i = 0; i < 99; i++) {
            due("basket " + i, x.basket(0, 1, 0, 0), i);
            x.iron(8);
            x.pass(1);
        }
        due("none is here", x.count(2), 0);
        due("a hundredth", x.basket(0, 1, 0, 0), FULL);
        due("BAD_VALUE before FULL", x.basket(0, 0, 0, 0), BAD_VALUE);
    }

    private static void promise4GivesBackTheOldestFirst() {
        of("promise 4");
        IroningBaskets x = withCustomers(0, 0);
        x.basket(0, 30, 0, 0);
        x.basket(1, 20, 0, 0);
        x.iron(600);
        x.pass(1);
        x.basket(0, 40, 0, 0);
        x.iron(600);
        x.pass(1);
        due("hangers of customer 0", x.customerOf(0, 1), 7);
        due("oldest day", x.customerOf(0, 5), 1);
        due("count(5)", x.count(5), 51);
        due("eight are too many", x.basket(0, 1, 0, 8), NOT_POSSIBLE);
        due("five come back", x.basket(0, 1, 0, 5), 3);
        due("hangers of customer 0", x.customerOf(0, 1), 2);
        due("oldest day", x.customerOf(0, 5), 2);
        due("hangers of customer 1", x.customerOf(1, 1), 2);
        due("they are in stock", x.count(5), 56);
        due("the book", x.book(0, 3), 5);
        due("the last two", x.basket(0, 1, 0, 2), 4);
        due("none are out", x.customerOf(0, 5), NONE);
        due("no more to give", x.basket(0, 1, 0, 1), NOT_POSSIBLE);
    }

    private static void promise5Baskets() {
        of("promise 5");
        IroningBaskets x = withCustomers(0, 3);
        due("empty text", x.baskets(), -100);
        typeAll(x, "1:s2l9*3;");
        due("ends too early", x.baskets(), -109);
        typeAll(x, "0:b1t4;x");
        due("a fault", x.baskets(), -116);
        due("errors record nothing", x.count(17), 2);
        x.clearText();
        typeAll(x, "1:s2l9*3;0:b1t4");
        due("two baskets", x.baskets(), 2);
        due("one act", x.count(17), 3);
        due("the text stays", x.count(18), 15);
        due("customer of 0", x.basketOf(0, 0), 1);
        due("pieces of 0", x.basketOf(0, 3), 2009);
        due("starch of 0", x.basketOf(0, 2), 3);
        due("customer of 1", x.basketOf(1, 0), 0);
        due("pieces of 1", x.basketOf(1, 3), 140);
        due("starch of 1", x.basketOf(1, 2), 0);
        due("the book", x.book(0, 2), 1);
        due("the book before", x.book(1, 2), 0);
        due("undo takes both", x.undo(), 2);
        due("count(2)", x.count(2), 0);
        due("again", x.baskets(), 2);
        due("the numbers are given anew", x.basketOf(1, 3), 140);
        x.pass(3);
        due("on another day", x.baskets(), 2);
        int[] days = {0, 0, 3, 3};
        for (int i = 0; i < 4; i++) {
            due("pin of " + i, x.basketOf(i, 1), i);
            due("day of " + i, x.basketOf(i, 9), days[i]);
        }
        x.iron(600);
        x.pass(1);
        x.pass(2);
        due("in emptied places", x.baskets(), 2);
        due("day of 4", x.basketOf(4, 9), 6);
        due("pin of 5", x.basketOf(5, 1), 1);
        x.undo();
        x.undo();
        x.undo();
        for (int i = 0; i < 4; i++) {
            due("pin of " + i, x.basketOf(i, 1), i);
            due("day of " + i, x.basketOf(i, 9), days[i]);
        }
    }

    private static void promise5AllOrNone() {
        of("promise 5");
        IroningBaskets x = withCustomers(0);
        typeAll(x, "0:l1;1:l1-9");
        due("the second has no customer", x.baskets(), UNKNOWN);
        due("none came", x.count(4), 0);
        due("no event", x.book(0, 0), NONE);
        x.clearText();
        x.basket(0, 50, 0, 0);
        x.iron(600);
        x.pass(1);
        typeAll(x, "0:l1-3;0:l1-3");
        due("five hangers do not do for six", x.baskets(), NOT_POSSIBLE);
        due("all are still out", x.customerOf(0, 1), 5);
        due("stock", x.count(5), 55);
        x.clearText();
        typeAll(x, "0:l1-3;0:l1-2");
        due("five hangers do for five", x.baskets(), 2);
        due("none are out", x.customerOf(0, 1), 0);
        due("stock", x.count(5), 60);
        x.clearText();
        typeAll(x, "0:l1;0:l1;0:l1;0:l1;0:l1;0:l1");
        due("six more fill it", x.baskets(), 6);
        due("then it is full", x.baskets(), FULL);
        x.clearText();
        typeAll(x, "0:l1;9:l1");
        due("the first one with an error decides", x.baskets(), FULL);
        x.clearText();
        x = withCustomers(0);
        typeAll(x, "0:l1;0:l1;0:l1;0:l1;0:l1;0:l1;0:l1;0:l1;0:l1;0:l1;0:l1;0:l1");
        due("twelve", x.count(18), 59);
        due("twelve are too many", x.baskets(), FULL);
        due("none came", x.count(4), 0);
        // Two digits of hangers, and nothing is left of the baskets that were read before.
        x = withCustomers(0);
        x.basket(0, 9990, 0, 0);
        x.iron(600);
        x.pass(1);
        x.clearText();
        typeAll(x, "0:s9b9*3-15;0:l9*2-2");
        due("fifteen and two", x.baskets(), 2);
        due("ten are left", x.customerOf(0, 1), 10);
        due("fifteen", x.book(1, 3), 15);
        due("two", x.book(0, 3), 2);
        x.clearText();
        typeAll(x, "0:t1;0:t2-10");
        due("none and ten", x.baskets(), 2);
        due("none are left", x.customerOf(0, 1), 0);
        due("no starch", x.basketOf(3, 2), 0);
        due("no starch", x.basketOf(4, 2), 0);
        due("trousers alone", x.basketOf(3, 3), 10);
        due("trousers alone", x.basketOf(4, 3), 20);
    }

    private static void promise6Lose() {
        of("promise 6");
        IroningBaskets x = withCustomers(0);
        x.basket(0, 2101, 2, 0);
        due("no such basket", x.lose(1, 0), UNKNOWN);
        due("basket -1", x.lose(-1, 0), UNKNOWN);
        due("kind 4", x.lose(0, 4), UNKNOWN);
        due("kind -1", x.lose(0, -1), UNKNOWN);
        due("no trousers", x.lose(0, 2), NONE);
        due("a blouse", x.lose(0, 1), 1);
        due("no other blouse", x.lose(0, 1), NONE);
        due("a shirt", x.lose(0, 0), 2);
        due("missed", x.basketOf(0, 5), 1100);
        due("the book", x.book(0, 0), 3);
        due("its number", x.book(0, 2), 0);
        due("its kind", x.book(0, 3), 0);
        due("the kind before", x.book(1, 3), 1);
        x.iron(600);
        due("ironed pieces keep their pins", x.lose(0, 0), NONE);
        due("sheets, too", x.lose(0, 3), NONE);
        due("a degree of the blouse", x.lost(0, 1), 2);
        // Twenty lost ones are the most, and FULL is told although nothing could be lost.
        x = withCustomers(0);
        x.basket(0, 9990, 0, 0);
        x.basket(0, 9, 0, 0);
        for (int i = 0; i < 18; i++) {
            x.lose(0, i / 9);
        }
        due("nineteen", x.lose(1, 3), 19);
        due("twenty", x.lose(1, 3), 20);
        due("a twenty-first", x.lose(1, 3), FULL);
        due("FULL is an error, NONE is not", x.lose(0, 0), FULL);
        due("UNKNOWN before FULL", x.lose(0, 4), UNKNOWN);
        due("UNKNOWN before FULL", x.lose(2, 0), UNKNOWN);
        due("count(10)", x.count(10), 20);
        due("nineteen", x.find(19, 1), 19);
        due("eighteen", x.find(0, 0), 18);
        // Eight baskets that miss pieces.
        x = withCustomers(0);
        for (int i = 0; i < 8; i++) {
            x.basket(0, 1, 0, 0);
            due("lost " + (i + 1), x.lose(i, 3), i + 1);
        }
        due("eight can be its own", x.lost(7, 2), 8);
        due("the lowest", x.lost(7, 3), 0);
        due("none is sure", x.sure(), 0);
    }

    private static void promise7Find() {
        of("promise 7");
        IroningBaskets x = withCustomers(0);
        x.basket(0, 1111, 2, 0);
        x.basket(0, 1111, 2, 0);
        x.basket(0, 1111, 3, 0);
        due("nothing is lost", x.find(0, 0), UNKNOWN);
        x.lose(0, 0);
        x.lose(1, 0);
        x.lose(2, 0);
        x.lose(2, 2);
        x.lose(0, 2);
        due("piece 5", x.find(5, 0), UNKNOWN);
        due("piece -1", x.find(-1, 0), UNKNOWN);
        due("basket 3", x.find(0, 3), UNKNOWN);
        due("another degree", x.find(0, 2), NOT_POSSIBLE);
        due("another kind", x.find(3, 1), NOT_POSSIBLE);
        due("the piece of 0 is found for 1", x.find(0, 1), 4);
        due("those behind it move up", x.lost(1, 1), 3);
        due("0 misses its shirt", x.basketOf(0, 5), 1010);
        due("1 misses none", x.basketOf(1, 5), 0);
        due("the book", x.book(0, 0), 4);
        due("its basket", x.book(0, 2), 1);
        due("its kind", x.book(0, 3), 0);
        due("1 misses none", x.find(0, 1), NOT_POSSIBLE);
        due("trousers have no degree", x.find(2, 0), 3);
        due("the book", x.book(0, 3), 2);
        due("the shirt of 0", x.find(0, 0), 2);
        due("the shirt of 2", x.find(0, 2), 1);
        due("the trousers of 2", x.find(0, 2), 0);
        due("none is left", x.find(0, 2), UNKNOWN);
        due("it can be ironed again", x.iron(600), 12);
    }

    private static void promise8Iron() {
        of("promise 8");
        IroningBaskets x = withCustomers(0);
        due("iron(0)", x.iron(0), BAD_VALUE);
        due("iron(601)", x.iron(601), BAD_VALUE);
        due("iron(-1)", x.iron(-1), BAD_VALUE);
        due("errors record nothing", x.count(17), 1);
        due("nothing to iron", x.iron(1), 0);
        due("that is an act, too", x.count(17), 2);
        x.basket(0, 1111, 2, 0);
        due("a shirt takes 7, stirring 3", x.iron(9), 0);
        due("not stirred", x.count(11), 0);
        due("no minutes", x.count(14), 0);
        due("ten do", x.iron(10), 1);
        due("the pot", x.count(11), 2);
        due("stirred once", x.count(12), 1);
        due("the lowest kind", x.basketOf(0, 4), 1000);
        due("a blouse takes 6", x.iron(11), 1);
        due("trousers take 6", x.iron(6), 1);
        due("a sheet takes 8", x.iron(7), 0);
        due("a sheet takes 8", x.iron(8), 1);
        due("ready", x.basketOf(0, 6), 1);
        due("minutes", x.count(14), 30);
        due("pieces", x.count(13), 4);
        x.basket(0, 10, 3, 0);
        due("trousers need no starch", x.iron(6), 1);
        x.basket(0, 100, 0, 0);
        due("degree 0 is a degree of the pot", x.iron(6), 0);
        due("degree 0 is a degree of the pot", x.iron(7), 1);
        due("the pot", x.count(11), 0);
        // What is left is lost, although a shorter piece would fit.
        x = withCustomers(0);
        x.basket(0, 1, 0, 0);
        x.basket(0, 100, 0, 0);
        due("the sheet is next", x.iron(7), 0);
        due("the sheet, and no more", x.iron(11), 1);
        x.set(1, 0);
        x.basket(0, 1000, 1, 0);
        due("stirring in no time", x.iron(10), 2);
        due("counts", x.count(12), 1);
        // A lost piece is passed over, until it is found.
        x = withCustomers(0);
        x.basket(0, 1100, 0, 0);
        x.lose(0, 0);
        due("the blouse", x.iron(600), 1);
        due("not ready", x.basketOf(0, 6), 0);
        x.find(0, 0);
        due("the shirt", x.iron(600), 1);
        due("ready", x.basketOf(0, 6), 1);
    }

    private static void promise8Hangers() {
        of("promise 8");
        IroningBaskets x = withCustomers(0, 0);
        x.visit(0, 0);
        x.basket(0, 9990, 0, 0);
        x.basket(0, 9990, 0, 0);
        x.basket(1, 9992, 0, 0);
        due("sixty hangers, then two sheets", x.iron(600), 62);
        due("stock", x.count(5), 0);
        due("on pieces", x.count(6), 60);
        due("ironed of the last", x.basketOf(2, 4), 6002);
        due("no hanger", x.iron(600), 0);
        x.buy(1);
        due("a hanger", x.iron(600), 1);
        due("a shirt", x.basketOf(2, 4), 7002);
        due("no hanger", x.count(5), 0);
        x.basket(1, 3, 0, 0);
        due("a later basket has sheets", x.iron(600), 3);
        due("a later basket has sheets", x.basketOf(3, 4), 3);
    }

    private static void promise8Orders() {
        of("promise 8");
        IroningBaskets x = withCustomers(0, 1, 2);
        x.visit(0, 0);
        x.visit(1, 8);
        x.visit(2, 4);
        x.basket(0, 1, 0, 0);
        x.basket(1, 2, 0, 0);
        x.basket(2, 3, 0, 0);
        x.set(0, 1);
        due("order 1", x.iron(8), 1);
        due("the nearest visit", x.basketOf(2, 4), 1);
        x.iron(16);
        x.iron(8);
        due("then the second nearest", x.basketOf(1, 4), 1);
        x.iron(8);
        due("never comes last", x.basketOf(0, 4), 0);
        x.iron(8);
        due("never comes last", x.basketOf(0, 4), 1);
        // The order is made anew for each piece: by their minutes baskets overtake one another.
        x = withCustomers(0);
        x.set(0, 2);
        x.basket(0, 2000, 0, 0);
        x.basket(0, 1, 0, 0);
        x.basket(0, 300, 0, 0);
        due("8 minutes come first", x.iron(8), 1);
        due("8 minutes come first", x.basketOf(1, 4), 1);
        due("10 minutes before 12", x.iron(5), 1);
        due("10 minutes before 12", x.basketOf(0, 4), 1000);
        x.lose(2, 1);
        x.lose(2, 1);
        due("lost ones do not count", x.iron(4), 1);
        due("lost ones do not count", x.basketOf(2, 4), 100);
        x = withCustomers(0);
        x.set(0, 2);
        x.basket(0, 200, 0, 0);
        x.basket(0, 1, 0, 0);
        due("of equal ones the lower number", x.iron(4), 1);
        due("of equal ones the lower number", x.basketOf(0, 4), 100);
    }

    private static void promise9Pass() {
        of("promise 9");
        IroningBaskets x = withCustomers(0);
        due("pass(0)", x.pass(0), BAD_VALUE);
        due("pass(100)", x.pass(100), BAD_VALUE);
        due("pass(-1)", x.pass(-1), BAD_VALUE);
        due("day", x.count(0), 0);
        for (int i = 0; i < 101; i++) {
            x.pass(99);
        }
        due("day 9999", x.count(0), 9999);
        due("no day more", x.pass(1), FULL);
        due("BAD_VALUE before FULL", x.pass(100), BAD_VALUE);
        due("undo", x.undo(), 3);
        due("day 9900", x.count(0), 9900);
        due("pass(98)", x.pass(98), 0);
        due("pass(2)", x.pass(2), FULL);
        due("nothing passed", x.count(0), 9998);
        due("pass(1)", x.pass(1), 0);
        due("day 9999", x.count(0), 9999);
    }

    private static void promise9Van() {
        of("promise 9");
        IroningBaskets x = withCustomers(0, 1);
        x.visit(1, 1 << 3);
        x.basket(1, 1, 0, 0);
        x.basket(0, 1111, 3, 0);
        x.basket(0, 2, 0, 0);
        x.lose(2, 3);
        due("all but the lost one", x.iron(600), 6);
        due("one is taken", x.pass(1), 1);
        due("it is not here", x.basketOf(1, 0), UNKNOWN);
        due("the others are", x.count(2), 2);
        due("its price", x.customerOf(0, 2), 15);
        due("its hangers", x.customerOf(0, 1), 3);
        due("they went out today", x.customerOf(0, 5), 1);
        due("the book", x.book(0, 0), 1);
        due("the day", x.book(0, 1), 1);
        due("the number", x.book(0, 2), 1);
        due("the price", x.book(0, 3), 15);
        due("not on the day 2", x.pass(1), 0);
        due("on the day 3", x.pass(1), 1);
        due("sheets take no hangers", x.customerOf(1, 1), 0);
        due("nothing is out", x.customerOf(1, 5), NONE);
        x.find(0, 2);
        due("not ironed yet", x.pass(1), 0);
        x.iron(8);
        due("ready now", x.pass(1), 1);
        due("two sheets more", x.customerOf(0, 2), 23);
        // Several on one day, by numbers.
        x = withCustomers(0);
        x.visit(0, 0);
        x.basket(0, 1, 0, 0);
        x.basket(0, 2, 0, 0);
        x.basket(0, 3, 0, 0);
        x.set(0, 2);
        x.iron(24);
        due("none yet", x.pass(2), 0);
        x.visit(0, 64);
        due("two in a week", x.pass(7), 2);
        due("the last", x.book(0, 2), 1);
        due("the first", x.book(1, 2), 0);
        due("on the day 6", x.book(0, 1), 6);
    }

    private static void promise9Payments() {
        of("promise 9");
        IroningBaskets x = withCustomers(0, 0, 0);
        x.set(2, 2);
        x.set(3, 7);
        x.basket(2, 10, 0, 0);
        x.basket(0, 20, 0, 0);
        x.iron(600);
        x.pass(1);
        x.basket(0, 30, 0, 0);
        x.iron(600);
        x.pass(1);
        due("stock", x.count(5), 54);
        due("owed", x.customerOf(0, 2), 15);
        x.pass(1);
        due("two days are the grace", x.count(7), 6);
        x.pass(1);
        due("three days are too long", x.count(7), 3);
        due("paid by 0", x.customerOf(0, 3), 2);
        due("paid by 2", x.customerOf(2, 3), 1);
        due("the rest is out", x.customerOf(0, 1), 3);
        due("since", x.customerOf(0, 5), 2);
        due("owed by 0", x.customerOf(0, 2), 29);
        due("owed by 2", x.customerOf(2, 2), 10);
        due("owed by 1", x.customerOf(1, 2), 0);
        due("the book", x.book(0, 0), 2);
        due("its day", x.book(0, 1), 4);
        due("its customer", x.book(0, 2), 2);
        due("its coins", x.book(0, 3), 7);
        due("by numbers", x.book(1, 2), 0);
        due("once for a customer", x.book(1, 3), 14);
        due("they do not come back", x.count(5), 54);
        due("paid so far", x.count(8), 3);
        // Ten customers at once.
        x = withCustomers(0, 1, 2, 3, 4, 0, 1, 2, 3, 4);
        for (int i = 9; i >= 2; i--) {
            x.basket(i, 10, 0, 0);
        }
        x.iron(600);
        x.pass(1);
        x.basket(0, 10, 0, 0);
        x.basket(1, 10, 0, 0);
        x.iron(600);
        x.visit(0, 0);
        x.visit(1, 0);
        x.pass(14);
        due("none is paid", x.count(8), 0);
        x.pass(1);
        due("eight are paid", x.count(8), 8);
        for (int i = 0; i < 8; i++) {
            due("by numbers", x.book(i, 2), 9 - i);
        }
        due("owed by all", x.count(15), 8 * 5);
        x.undo();
        due("paid by 9", x.customerOf(9, 3), 0);
        x.pass(1);
        x.customer(0);
        x.set(1, 4);
        x.undo();
        due("paid by 2", x.customerOf(2, 3), 1);
        due("paid by 0", x.customerOf(0, 3), 0);
        // With a new grace several days are paid at once; for nothing, if the price is nothing.
        x = withCustomers(0);
        x.set(3, 0);
        for (int i = 0; i < 3; i++) {
            x.basket(0, 10, 0, 0);
            x.iron(6);
            x.pass(1);
        }
        x.set(2, 1);
        x.basket(0, 10, 0, 0);
        x.iron(6);
        x.pass(1);
        due("paid before the van comes", x.book(0, 0), 1);
        due("two were too long out", x.customerOf(0, 3), 2);
        due("in one entry", x.book(1, 0), 2);
        due("on the day 4", x.book(1, 1), 4);
        due("for nothing", x.book(1, 3), 0);
        due("still out", x.customerOf(0, 1), 2);
        due("owed for four trousers", x.customerOf(0, 2), 12);
        x.pass(1);
        due("one more", x.customerOf(0, 3), 3);
        x.pass(1);
        due("and one more", x.customerOf(0, 3), 4);
        due("of all", x.count(8), 4);
    }

    private static void promise10Buy() {
        of("promise 10");
        IroningBaskets x = new IroningBaskets();
        due("buy(0)", x.buy(0), BAD_VALUE);
        due("buy(100)", x.buy(100), BAD_VALUE);
        due("buy(-1)", x.buy(-1), BAD_VALUE);
        due("buy(1)", x.buy(1), 61);
        due("bought", x.count(9), 1);
        due("an act", x.count(17), 1);
        for (int i = 0; i < 9; i++) {
            x.buy(99);
        }
        due("stock", x.count(5), 952);
        due("1000 are too many", x.buy(48), FULL);
        due("999 are not", x.buy(47), 999);
        due("no more", x.buy(1), FULL);
        due("BAD_VALUE before FULL", x.buy(100), BAD_VALUE);
        due("bought", x.count(9), 939);
        // Hangers on pieces and out count, paid ones do not.
        x.customer(0);
        x.basket(0, 50, 0, 0);
        x.iron(600);
        due("on pieces", x.buy(1), FULL);
        x.pass(1);
        due("out", x.buy(1), FULL);
        x.pass(15);
        due("paid", x.customerOf(0, 3), 5);
        due("room for five", x.buy(6), FULL);
        due("room for five", x.buy(5), 999);
    }

    private static void promise11Pay() {
        of("promise 11");
        IroningBaskets x = withCustomers(0, 0);
        due("no such customer", x.pay(2), UNKNOWN);
        due("customer -1", x.pay(-1), UNKNOWN);
        due("owes nothing", x.pay(0), NONE);
        x.basket(0, 1, 0, 0);
        x.basket(1, 2, 0, 0);
        x.iron(600);
        x.pass(1);
        due("owed by all", x.count(15), 12);
        due("pay(1)", x.pay(1), 8);
        due("owes nothing", x.pay(1), NONE);
        due("the other", x.customerOf(0, 2), 4);
        due("owed by all", x.count(15), 4);
        due("paid so far", x.count(16), 8);
        due("pay(0)", x.pay(0), 4);
        due("paid so far", x.count(16), 12);
        due("undo", x.undo(), 3);
        due("paid so far", x.count(16), 8);
    }

    private static void promise12Set() {
        of("promise 12");
        int[] lowest = {0, 0, 1, 0};
        int[] highest = {2, 20, 60, 99};
        int[] first = {0, 3, 14, 2};
        IroningBaskets x = new IroningBaskets();
        due("set(-1, 1)", x.set(-1, 1), BAD_VALUE);
        due("set(4, 1)", x.set(4, 1), BAD_VALUE);
        for (int which = 0; which < 4; which++) {
            due("below " + which, x.set(which, lowest[which] - 1), BAD_VALUE);
            due("above " + which, x.set(which, highest[which] + 1), BAD_VALUE);
            due("so already " + which, x.set(which, first[which]), NONE);
            due("highest " + which, x.set(which, highest[which]), first[which]);
            due("count", x.count(19 + which), highest[which]);
            due("lowest " + which, x.set(which, lowest[which]), highest[which]);
            due("count", x.count(19 + which), lowest[which]);
        }
        x = new IroningBaskets();
        x.set(0, 0);
        x.set(0, 3);
        due("nothing was recorded", x.count(17), 0);
        x.set(0, 1);
        due("recorded", x.count(17), 1);
    }

    private static void promise13Type() {
        of("promise 13");
        IroningBaskets x = new IroningBaskets();
        for (int i = 1; i <= 60; i++) {
            due("type", x.type((char) (i * 1000)), i);
        }
        due("no more", x.type('0'), FULL);
        due("count(18)", x.count(18), 60);
        due("no act", x.count(17), 0);
        x.clearText();
        due("type", x.type((char) 0), 1);
        due("type", x.type(Character.MAX_VALUE), 2);
        due("the first is not allowed", x.fault(), 0);
    }

    private static void promise14ClearText() {
        of("promise 14");
        IroningBaskets x = new IroningBaskets();
        due("empty", x.clearText(), 0);
        typeAll(x, "0:s1");
        due("four", x.clearText(), 4);
        due("empty", x.count(18), 0);
        due("empty", x.fault(), 0);
        typeAll(x, "0:");
        due("what was is gone", x.fault(), 2);
        due("no act", x.count(17), 0);
    }

    private static void promise15Fault() {
        of("promise 15");
        String[] right = {"0:s1", "9:b9", "0:t1", "0:l1", "1:s1b2t3l4", "1:b1l1", "0:s1*1", "0:s1*3-1", "0:s1-9",
            "0:s1-10", "0:s1-99", "0:s1;1:b1", "0:s1*2;1:b1-3;2:l9", "0:s1-12;1:l1", "0:s1-1;1:l1"};
        for (String signs : right) {
            dueFault(signs, NONE);
        }
        dueFault("", 0);
        dueFault("0", 1);
        dueFault("0:", 2);
        dueFault("0:s", 3);
        dueFault("0:s1*", 5);
        dueFault("0:s1-", 5);
        dueFault("0:s1;", 5);
        dueFault("0:s1b", 5);
        dueFault("s1", 0);
        dueFault(";", 0);
        dueFault("a:s1", 0);
        dueFault("/:s1", 0);
        dueFault("00:s1", 1);
        dueFault("0;s1", 1);
        dueFault("0:1", 2);
        dueFault("0:*1", 2);
        dueFault("0:;", 2);
        dueFault("0:S1", 2);
        dueFault("0:s0", 3);
        dueFault("0:ss", 3);
        dueFault("0:s:", 3);
        dueFault("0:s12", 4);
        dueFault("0:s1s1", 4);
        dueFault("0:b1s1", 4);
        dueFault("0:l1t1", 4);
        dueFault("0:s1t1b1", 6);
        dueFault("0:s1 ", 4);
        dueFault("0:s1*0", 5);
        dueFault("0:s1*4", 5);
        dueFault("0:s1*1*1", 6);
        dueFault("0:s1*11", 6);
        dueFault("0:s1*1b1", 6);
        dueFault("0:s1-0", 5);
        dueFault("0:s1--", 5);
        dueFault("0:s1-100", 7);
        dueFault("0:s1-1*1", 6);
        dueFault("0:s1-1b1", 6);
        dueFault("0:s1-12-1", 7);
        dueFault("0:s1;;", 5);
        dueFault("::s1", 0);
        dueFault("0:s:", 3);
        dueFault("0:s1*:", 5);
        dueFault("0:s1-:", 5);
        dueFault("0:s1-/", 5);
        dueFault("0:s1-1:", 6);
        dueFault("0:s1-1/", 6);
        dueFault("0:s1-11;", 8);
        dueFault("0:s1;0:s1;", 10);
        dueFault("0:l1;0:s1", NONE);
        dueFault("0:s1" + (char) 0x133, 4);
        dueFault((char) 0x130 + ":s1", 0);
        IroningBaskets x = new IroningBaskets();
        typeAll(x, "0:l1;0:l1;0:l1;0:l1;0:l1;0:l1;0:l1;0:l1;0:l1;0:l1;0:l1;0:l1;");
        due("sixty characters that end too early", x.fault(), 60);
        due("no act", x.count(17), 0);
    }

    private static void promise16Undo() {
        of("promise 16");
        IroningBaskets x = new IroningBaskets();
        due("nothing to undo", x.undo(), NONE);
        for (int i = 0; i < 6; i++) {
            x.customer(0);
        }
        typeAll(x, "0:s1");
        due("four at most", x.count(17), 4);
        for (int i = 3; i >= 0; i--) {
            due("undo", x.undo(), i);
            due("customers", x.count(1), 2 + i);
        }
        due("the oldest were dropped", x.undo(), NONE);
        due("the text stays", x.count(18), 4);
        due("customers", x.count(1), 2);
        // Everything of a state comes back.
        x = withCustomers(1, 2);
        x.basket(0, 1211, 1, 0);
        x.lose(0, 1);
        x.pass(3);
        x.iron(20);
        String before = everything(x);
        x.iron(600);
        x.undo();
        dueSame("iron", before, everything(x));
        x.find(0, 0);
        x.undo();
        dueSame("find", before, everything(x));
        x.visit(1, 3);
        x.undo();
        dueSame("visit", before, everything(x));
        x.set(3, 55);
        x.undo();
        dueSame("set", before, everything(x));
        x.find(0, 0);
        x.iron(600);
        x.pass(50);
        x.pay(0);
        due("undo", x.undo(), 3);
        due("undo", x.undo(), 2);
        due("undo", x.undo(), 1);
        due("undo", x.undo(), 0);
        dueSame("find, iron, pass and pay", before, everything(x));
    }

    private static void promise16UndoBringsBackHangersAndPins() {
        of("promise 16");
        IroningBaskets x = withCustomers(0, 1, 2);
        x.visit(1, 1 << 4);
        x.basket(1, 10, 0, 0);
        x.basket(0, 1020, 0, 0);
        x.basket(2, 1111, 3, 0);
        x.lose(2, 2);
        x.lose(2, 0);
        x.iron(23);
        x.pass(1);
        x.basket(2, 30, 0, 0);
        x.iron(600);
        x.pass(1);
        due("pin of the latest", x.basketOf(3, 1), UNKNOWN);
        x.pass(2);
        due("hangers of 0 are out", x.customerOf(0, 5), 1);
        due("hangers of 1 are out", x.customerOf(1, 5), 4);
        due("hangers of 2 are out", x.customerOf(2, 5), 2);
        x.buy(20);
        x.undo();
        due("bought", x.count(9), 0);
        due("stock", x.count(5), 60 - 8);
        String before = everything(x);
        x.pass(20);
        x.find(0, 2);
        x.basket(0, 1, 0, 0);
        x.basket(0, 2, 0, 0);
        for (int i = 0; i < 4; i++) {
            x.undo();
        }
        dueSame("pass, find and two baskets", before, everything(x));
        x.basket(0, 1, 0, 3);
        due("hangers come back", x.customerOf(0, 5), NONE);
        x.undo();
        dueSame("a basket with hangers", before, everything(x));
        due("the lost ones are told", x.lost(0, 0), 2);
        due("the lost ones are told", x.lost(0, 1), 0);
        due("the lost ones are told", x.lost(1, 0), 0);
        due("the lost ones are told", x.lost(1, 1), 3);
    }

    private static void dueSame(String act, String before, String after) {
        due("undo of " + act, after, before);
    }

    private static void promise17And18KeepRestore() {
        of("promise 18");
        IroningBaskets x = withCustomers(3);
        due("no snapshot", x.restore(), NONE);
        due("nothing was recorded", x.count(17), 1);
        x.basket(0, 1234, 2, 0);
        x.lose(0, 3);
        x.pass(5);
        of("promise 17");
        String before = everything(x);
        due("keep", x.keep(), 5);
        due("no act", x.count(17), 4);
        dueSame("keep changes nothing", before, everything(x));
        of("promise 18");
        typeAll(x, "0:s1");
        x.find(0, 0);
        x.iron(600);
        x.pass(9);
        x.customer(0);
        due("restore", x.restore(), 5);
        due("an act", x.count(17), 4);
        due("the text stays", x.clearText(), 4);
        dueSame("restore", before, everything(x));
        due("undo", x.undo(), 3);
        due("before restore", x.count(0), 14);
        due("before restore", x.count(1), 2);
        due("the snapshot stays", x.restore(), 5);
        due("the snapshot stays", x.restore(), 5);
        due("restore is recorded always", x.count(17), 4);
        x.iron(600);
        due("the snapshot is apart", x.restore(), 5);
        dueSame("restore", before, everything(x));
        of("promise 17");
        x.pass(1);
        due("another one", x.keep(), 6);
        x.pass(1);
        due("in place of the one that was", x.restore(), 6);
        x.undo();
        due("undo leaves the snapshot", x.restore(), 6);
    }

    private static void promise18PlacesAreUsedAgain() {
        of("promise 18");
        IroningBaskets x = new IroningBaskets();
        x.keep();
        x.customer(0);
        x.customer(3);
        x.basket(1, 9999, 3, 0);
        x.lose(0, 0);
        x.iron(100);
        x.set(2, 1);
        x.basket(1, 30, 0, 0);
        x.set(0, 2);
        x.iron(600);
        x.pass(1);
        x.pass(5);
        due("hangers are paid", x.customerOf(1, 3), 3);
        due("restore", x.restore(), 0);
        due("a customer comes", x.customer(1), 0);
        due("a customer comes", x.customer(1), 1);
        for (int what = 1; what < 6; what++) {
            due("customerOf(1, " + what + ")", x.customerOf(1, what), what == 5 ? NONE : 0);
        }
        due("a basket comes", x.basket(1, 1111, 1, 0), 0);
        int[] want = {1, 0, 1, 1111, 0, 0, 0, 3 + 3 + 3 + 4, 6 + 5 + 6 + 8, 0};
        for (int what = 0; what < want.length; what++) {
            due("basketOf(0, " + what + ")", x.basketOf(0, what), want[what]);
        }
        due("nothing is lost", x.lost(0, 0), UNKNOWN);
        due("one event", x.book(1, 0), NONE);
    }

    private static void promise19CustomerOf() {
        of("promise 19");
        IroningBaskets x = withCustomers(4, 2);
        due("no such customer", x.customerOf(2, 0), UNKNOWN);
        due("customer -1", x.customerOf(-1, 7), UNKNOWN);
        due("what 7", x.customerOf(0, 7), BAD_VALUE);
        due("what -1", x.customerOf(0, -1), BAD_VALUE);
        due("district", x.customerOf(0, 0), 4);
        due("district", x.customerOf(1, 0), 2);
        due("next visit", x.customerOf(0, 6), 1);
        x.visit(4, 1);
        due("a week from today", x.customerOf(0, 6), 7);
        x.visit(4, 2);
        due("tomorrow", x.customerOf(0, 6), 1);
        x.pass(1);
        due("not today", x.customerOf(0, 6), 8);
        x.visit(4, 0);
        due("never", x.customerOf(0, 6), NONE);
        x.basket(1, 1211, 0, 0);
        x.basket(1, 1, 0, 0);
        x.basket(0, 1, 0, 0);
        due("baskets that are here", x.customerOf(1, 4), 2);
        x.iron(29);
        x.pass(1);
        due("baskets that are here", x.customerOf(1, 4), 1);
        due("hangers", x.customerOf(1, 1), 4);
        due("coins", x.customerOf(1, 2), 14);
        due("since", x.customerOf(1, 5), 2);
        due("paid", x.customerOf(1, 3), 0);
        x.pass(15);
        due("paid", x.customerOf(1, 3), 4);
        due("coins", x.customerOf(1, 2), 22);
        due("none are out", x.customerOf(1, 1), 0);
        due("none are out", x.customerOf(1, 5), NONE);
        due("the other", x.customerOf(0, 2), 0);
    }

    private static void promise20BasketOf() {
        of("promise 20");
        IroningBaskets x = withCustomers(0, 0);
        x.pass(4);
        x.basket(0, 1, 0, 0);
        x.basket(1, 3212, 3, 0);
        due("no such basket", x.basketOf(2, 0), UNKNOWN);
        due("basket -1", x.basketOf(-1, 10), UNKNOWN);
        due("what 10", x.basketOf(0, 10), BAD_VALUE);
        due("what -1", x.basketOf(0, -1), BAD_VALUE);
        x.lose(1, 0);
        x.lose(1, 1);
        x.set(0, 2);
        x.iron(8);
        x.iron(19);
        int[] want = {1, 1, 3, 3212, 2000, 1100, 0, 3 * 4 + 2 * 4 + 3 + 2 * 4, 7 + 6 + 16, 4};
        for (int what = 0; what < want.length; what++) {
            due("basketOf(1, " + what + ")", x.basketOf(1, what), want[what]);
        }
        due("ready", x.basketOf(0, 6), 1);
        due("no minutes", x.basketOf(0, 8), 0);
        x.iron(600);
        due("pieces that are missed are not ironed", x.basketOf(1, 4), 2112);
        due("not ready", x.basketOf(1, 6), 0);
        due("no minutes", x.basketOf(1, 8), 0);
        x.pass(1);
        due("no longer here", x.basketOf(0, 0), UNKNOWN);
        due("still here", x.basketOf(1, 0), 1);
        due("its pin stays", x.basketOf(1, 1), 1);
        int[] prices = {3, 3, 4, 4};
        int[] blouses = {2, 3, 3, 4};
        for (int starch = 0; starch < 4; starch++) {
            int number = x.basket(0, 1000, starch, 0);
            due("a shirt with starch " + starch, x.basketOf(number, 7), prices[starch]);
        }
        x.undo();
        x.undo();
        x.undo();
        x.undo();
        for (int starch = 0; starch < 4; starch++) {
            int number = x.basket(0, 111, starch, 0);
            due("others with starch " + starch, x.basketOf(number, 7), blouses[starch] + 7);
        }
    }

    private static void promise21Lost() {
        of("promise 21");
        IroningBaskets x = withCustomers(0);
        due("none is lost", x.lost(0, 0), UNKNOWN);
        x.basket(0, 1111, 1, 0);
        x.basket(0, 2222, 2, 0);
        x.basket(0, 1111, 2, 0);
        x.lose(2, 0);
        x.lose(1, 0);
        x.lose(1, 0);
        x.lose(0, 1);
        x.lose(2, 3);
        x.lose(0, 3);
        int[][] want = {{0, 2, 2, 1}, {0, 2, 2, 1}, {0, 2, 2, 1}, {1, 1, 1, 0}, {3, 0, 2, 0}, {3, 0, 2, 0}};
        for (int piece = 0; piece < want.length; piece++) {
            for (int what = 0; what < 4; what++) {
                due("lost(" + piece + ", " + what + ")", x.lost(piece, what), want[piece][what]);
            }
        }
        due("lost(6, 0)", x.lost(6, 0), UNKNOWN);
        due("lost(-1, 9)", x.lost(-1, 9), UNKNOWN);
        due("what 4", x.lost(0, 4), BAD_VALUE);
        due("what -1", x.lost(0, -1), BAD_VALUE);
        x.find(0, 1);
        x.find(0, 1);
        due("only the other misses it", x.lost(0, 3), 2);
        due("only the other misses it", x.lost(0, 2), 1);
    }

    private static void promise22Ordered() {
        of("promise 22");
        IroningBaskets x = withCustomers(0, 1, 2);
        due("none is here", x.ordered(0), NONE);
        due("rank -1", x.ordered(-1), BAD_VALUE);
        x.visit(0, 0);
        x.visit(1, 1 << 4);
        x.basket(0, 2, 0, 0);
        x.basket(1, 2000, 0, 0);
        x.basket(2, 2000, 3, 0);
        x.basket(1, 2, 0, 0);
        x.basket(2, 1100, 0, 0);
        dueOrder(x, 0, 1, 2, 3, 4);
        x.set(0, 1);
        dueOrder(x, 2, 4, 1, 3, 0);
        x.pass(4);
        x.visit(2, 1 << 4);
        dueOrder(x, 1, 2, 3, 4, 0);
        x.set(0, 2);
        dueOrder(x, 4, 1, 0, 2, 3);
        x.lose(3, 3);
        dueOrder(x, 3, 4, 1, 0, 2);
        x.iron(8);
        due("rank 5", x.ordered(5), NONE);
        due("rank MAX", x.ordered(Integer.MAX_VALUE), NONE);
        due("rank MIN", x.ordered(Integer.MIN_VALUE), BAD_VALUE);
        dueOrder(x, 3, 4, 1, 0, 2);
    }

    private static void dueOrder(IroningBaskets x, int... numbers) {
        for (int rank = 0; rank < numbers.length; rank++) {
            due("ordered(" + rank + ") by the order " + x.count(19), x.ordered(rank), numbers[rank]);
        }
    }

    private static void promise23Book() {
        of("promise 23");
        IroningBaskets x = withCustomers(0);
        due("ago -1", x.book(-1, 0), BAD_VALUE);
        due("ago 10", x.book(10, 0), BAD_VALUE);
        due("what -1", x.book(0, -1), BAD_VALUE);
        due("what 4", x.book(0, 4), BAD_VALUE);
        due("what is looked at first", x.book(9, 4), BAD_VALUE);
        due("it knows nothing", x.book(0, 0), NONE);
        x.pass(2);
        x.basket(0, 90, 0, 0);
        int[] came = {0, 2, 0, 0};
        for (int what = 0; what < 4; what++) {
            due("it came", x.book(0, what), came[what]);
        }
        due("one entry", x.book(1, 0), NONE);
        for (int i = 0; i < 9; i++) {
            x.lose(0, 2);
            due("the oldest", x.book(i + 1, 0), 0);
            due("not so many", x.book(i + 2, 0), i == 8 ? BAD_VALUE : NONE);
        }
        x.find(0, 0);
        due("found", x.book(0, 0), 4);
        due("the kind", x.book(0, 3), 2);
        for (int i = 1; i < 10; i++) {
            due("lost", x.book(i, 0), 3);
        }
        due("undo", x.undo(), 3);
        due("the oldest is back", x.book(9, 0), 0);
    }

    private static void promise24Count() {
        of("promise 24");
        IroningBaskets x = withCustomers(0, 1, 1);
        due("what -1", x.count(-1), BAD_VALUE);
        due("what 23", x.count(23), BAD_VALUE);
        x.visit(1, 0);
        x.set(3, 4);
        x.set(2, 3);
        x.set(1, 5);
        x.basket(0, 2000, 2, 0);
        x.basket(1, 110, 1, 0);
        x.basket(2, 32, 0, 0);
        x.buy(7);
        x.iron(12 + 7 + 10 + 6 + 6);
        x.pass(4);
        x.basket(0, 1, 0, 0);
        x.lose(2, 2);
        x.pay(0);
        x.pass(1);
        typeAll(x, "0:s");
        x.basket(1, 1, 0, 0);
        due("wanting", x.wanting(), 0);
        int[] want = {5, 3, 4, 1, 5, 60 + 7 - 5, 3, 0, 2, 7, 1, 1, 2, 5, 41, 8, 8, 4, 3, 0, 5, 3, 4};
        for (int what = 0; what < want.length; what++) {
            due("count(" + what + ")", x.count(what), want[what]);
        }
        x = withCustomers(0);
        x.basket(0, 20, 0, 0);
        x.iron(600);
        due("on pieces", x.count(6), 2);
        x.pass(1);
        due("on pieces", x.count(6), 0);
        due("out", x.count(7), 2);
    }

    private static void promise25MeanMinutes() {
        of("promise 25");
        IroningBaskets x = withCustomers(0);
        due("none", x.meanMinutes(), 0.0f);
        x.basket(0, 1200, 1, 0);
        x.iron(13);
        due("9 for one", x.meanMinutes(), 9.0f);
        x.iron(600);
        due("19 for three", x.meanMinutes(), 19.0f / 3.0f);
        x.pass(1);
        due("19 for three", x.meanMinutes(), 19.0f / 3.0f);
    }

    private static void promise26IfIroned() {
        of("promise 26");
        IroningBaskets x = withCustomers(0, 1);
        due("order -1", x.ifIroned(-1, 1, 0), BAD_VALUE);
        due("order 3", x.ifIroned(3, 1, 0), BAD_VALUE);
        due("minutes 0", x.ifIroned(0, 0, 0), BAD_VALUE);
        due("minutes 601", x.ifIroned(0, 601, 0), BAD_VALUE);
        due("what -1", x.ifIroned(0, 1, -1), BAD_VALUE);
        due("what 3", x.ifIroned(0, 1, 3), BAD_VALUE);
        due("nothing", x.ifIroned(0, 600, 0), 0);
        due("nothing in a minute", x.ifIroned(2, 1, 2), 0);
        x.visit(0, 0);
        x.basket(0, 3000, 2, 0);
        x.basket(1, 2, 0, 0);
        x.basket(0, 100, 1, 0);
        String before = everything(x);
        int[][] want = {{2, 0, 1}, {2, 1, 0}, {2, 1, 1}};
        for (int order = 0; order < 3; order++) {
            for (int what = 0; what < 3; what++) {
                due("ifIroned(" + order + ", 17, " + what + ")", x.ifIroned(order, 17, what), want[order][what]);
            }
        }
        due("no act", x.count(17), 4);
        dueSame("nothing is changed", before, everything(x));
        x.iron(26);
        due("stirred", x.count(12), 1);
        due("only those to come are counted", x.ifIroned(0, 600, 2), 1);
        due("those that are ready now, too", x.ifIroned(0, 1, 1), 1);
        due("all", x.ifIroned(0, 600, 1), 3);
    }

    private static void promise27BestOrder() {
        of("promise 27");
        IroningBaskets x = withCustomers(0, 1);
        due("minutes 0", x.bestOrder(0), BAD_VALUE);
        due("minutes 601", x.bestOrder(601), BAD_VALUE);
        due("all alike", x.bestOrder(600), 0);
        due("all alike", x.bestOrder(1), 0);
        x.visit(0, 0);
        x.basket(0, 9, 0, 0);
        x.basket(1, 3, 0, 0);
        x.basket(0, 1, 0, 0);
        due("the short one is ready first", x.bestOrder(8), 2);
        due("still only the short one", x.bestOrder(23), 2);
        due("1 and 2 have one ready each, as many pieces", x.bestOrder(24), 1);
        due("with 32 by minutes two are ready", x.bestOrder(32), 2);
        due("with 600 all are alike", x.bestOrder(600), 0);
        // As many baskets, but more pieces.
        x = withCustomers(0, 1);
        x.visit(0, 0);
        x.basket(0, 9, 0, 0);
        x.basket(1, 9000, 0, 0);
        due("more pieces", x.bestOrder(40), 1);
        due("no act", x.count(17), 4);
        due("the order stays", x.count(19), 0);
    }

    private static void promise28HomeOn() {
        of("promise 28");
        IroningBaskets x = withCustomers(0, 1);
        due("no such basket", x.homeOn(0, 0), UNKNOWN);
        x.basket(0, 9, 0, 0);
        x.basket(1, 3, 0, 0);
        x.basket(0, 1000, 2, 0);
        due("minutes 0", x.homeOn(0, 0), BAD_VALUE);
        due("minutes 601", x.homeOn(0, 601), BAD_VALUE);
        due("tomorrow", x.homeOn(2, 600), 1);
        due("a minute is nothing", x.homeOn(2, 1), NONE);
        due("a piece a day", x.homeOn(0, 8), 9);
        due("then the next", x.homeOn(1, 8), 12);
        due("minutes that are left are lost", x.homeOn(1, 15), 12);
        due("never", x.homeOn(2, 9), NONE);
        due("after twelve days", x.homeOn(2, 10), 13);
        x.visit(0, 1);
        due("the van comes on the day 14", x.homeOn(0, 8), 14);
        x.visit(0, 0);
        due("the van never comes", x.homeOn(0, 600), NONE);
        x.pass(3);
        due("from the day of now", x.homeOn(1, 600), 4);
        due("nothing is changed", x.count(0), 3);
        x.lose(1, 3);
        due("a lost piece", x.homeOn(1, 600), NONE);
        // Sixty days, and not one more.
        x = withCustomers(0);
        x.pass(5);
        for (int i = 0; i < 6; i++) {
            x.basket(0, 9, 0, 0);
        }
        x.basket(0, 6, 0, 0);
        x.basket(0, 1, 0, 0);
        due("on the sixtieth day", x.homeOn(6, 8), 65);
        due("not in sixty days", x.homeOn(7, 8), NONE);
        // Hangers that come back in no way are wanting for ever.
        x = withCustomers(0);
        x.basket(0, 9990, 0, 0);
        x.basket(0, 9990, 0, 0);
        x.basket(0, 9990, 0, 0);
        due("the second has its hangers", x.homeOn(1, 600), 1);
        due("the third never", x.homeOn(2, 600), NONE);
        for (int i = 0; i < 101; i++) {
            x.pass(99);
        }
        due("the day after the last", x.homeOn(0, 600), 10000);
    }

    private static void promise29Wanting() {
        of("promise 29");
        IroningBaskets x = withCustomers(0);
        due("none", x.wanting(), 0);
        x.visit(0, 0);
        x.basket(0, 9999, 0, 0);
        x.basket(0, 9999, 0, 0);
        due("54 of 60", x.wanting(), 0);
        x.basket(0, 339, 0, 0);
        due("60 of 60", x.wanting(), 0);
        x.basket(0, 1229, 0, 0);
        due("65 of 60", x.wanting(), 5);
        x.lose(3, 0);
        x.lose(3, 3);
        due("lost ones, too", x.wanting(), 5);
        x.iron(600);
        due("ironed ones have theirs", x.wanting(), 5);
        x.buy(2);
        due("two more", x.wanting(), 3);
        x.buy(99);
        due("enough", x.wanting(), 0);
    }

    private static void promise30Sure() {
        of("promise 30");
        IroningBaskets x = withCustomers(0);
        due("none is lost", x.sure(), 0);
        x.basket(0, 2202, 1, 0);
        x.basket(0, 2222, 1, 0);
        x.basket(0, 2222, 2, 0);
        x.lose(0, 0);
        due("one", x.sure(), 1);
        x.lose(0, 0);
        due("both are of 0", x.sure(), 2);
        x.lose(2, 0);
        due("another degree", x.sure(), 3);
        x.lose(1, 0);
        due("0 and 1 miss shirts", x.sure(), 1);
        x.lose(0, 3);
        due("a sheet", x.sure(), 2);
        x.lose(2, 3);
        due("sheets have no degree", x.sure(), 1);
        x.find(4, 0);
        due("the sheet is of 2", x.sure(), 2);
    }
}
