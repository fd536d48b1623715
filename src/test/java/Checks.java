/** What the tests share: counting what is not as due, and objects to begin with. */
abstract class Checks {
    static final int UNKNOWN = -1;
    static final int BAD_VALUE = -2;
    static final int FULL = -3;
    static final int NOT_POSSIBLE = -4;
    static final int NONE = -5;

    private static String part = "";
    private static int tests;
    private static int checks;
    private static int wrong;

    /** What a test does. */
    interface Body {
        void run();
    }

    /** Names the promise or the section of the document that the next tests are of. */
    static void of(String itsPart) {
        part = itsPart;
    }

    /** A test of its own: what is thrown in it is its fault alone, and the next ones run. */
    static void test(String sentence, Body body) {
        String before = part;
        part = before + ", \"" + sentence + "\"";
        tests++;
        try {
            body.run();
        } catch (RuntimeException | Error thrown) {
            wrong++;
            System.out.println(part + " threw " + thrown + " at " + thrown.getStackTrace()[0]);
        }
        part = before;
    }

    static void due(String call, int got, int want) {
        due(call, (Object) got, want);
    }

    static void due(int got, int want) {
        due("line " + line(), (Object) got, want);
    }

    static void due(String call, String got, String want) {
        due(call, (Object) got, want);
    }

    static void due(String call, float got, float want) {
        due(call, (Object) got, want);
    }

    private static void due(String call, Object got, Object want) {
        checks++;
        if (!got.equals(want)) {
            wrong++;
            System.out.println(part + ": " + call + " answered " + got + ", due is " + want);
        }
    }

    private static int line() {
        return new Throwable().getStackTrace()[2].getLineNumber();
    }

    /** Tells what was counted, and ends with 1 if anything was not as due. */
    static void finish(String name) {
        String counted = tests == 0 ? "" : tests + " tests, ";
        System.out.println(name + ": " + counted + checks + " checks, " + wrong + " wrong");
        if (wrong != 0) {
            System.exit(1);
        }
    }

    static IroningBaskets withCustomers(int... districts) {
        IroningBaskets x = new IroningBaskets();
        for (int district : districts) {
            x.customer(district);
        }
        return x;
    }

    /** A customer, in a district that is visited every day, and its baskets with these pieces, without starch. */
    static IroningBaskets withBaskets(int... pieces) {
        IroningBaskets x = withCustomers(0);
        for (int digits : pieces) {
            x.basket(0, digits, 0, 0);
        }
        return x;
    }

    /** Lets hangers, 1 to 27 of them, go out to a customer; they are out on the day that begins. */
    static void sendHangers(IroningBaskets x, int customer, int hangers) {
        int shirts = Math.min(9, hangers);
        int blouses = Math.min(9, hangers - shirts);
        x.basket(customer, shirts * 1000 + blouses * 100 + (hangers - shirts - blouses) * 10, 0, 0);
        x.iron(600);
        x.pass(1);
    }

    static void typeAll(IroningBaskets x, String signs) {
        for (int i = 0; i < signs.length(); i++) {
            x.type(signs.charAt(i));
        }
    }

    static IroningBaskets withText(String signs) {
        IroningBaskets x = new IroningBaskets();
        typeAll(x, signs);
        return x;
    }

    /** The same object, with this text in place of the one that was. */
    static IroningBaskets retyped(IroningBaskets x, String signs) {
        x.clearText();
        typeAll(x, signs);
        return x;
    }

    /** A service without customers on a later day. */
    static IroningBaskets lateOn(int day) {
        IroningBaskets x = new IroningBaskets();
        for (int left = day; left > 0; left -= 99) {
            x.pass(Math.min(99, left));
        }
        return x;
    }

    /** A service with more than 60 hangers, all in stock. */
    static IroningBaskets withHangers(int stock) {
        IroningBaskets x = new IroningBaskets();
        for (int left = stock - 60; left > 0; left -= 99) {
            x.buy(Math.min(99, left));
        }
        return x;
    }

    /** The text for some baskets of a customer, alike. */
    static String times(int number, String basket) {
        StringBuilder text = new StringBuilder(basket);
        for (int i = 1; i < number; i++) {
            text.append(';').append(basket);
        }
        return text.toString();
    }

    /**
     * On the day 3 three customers, of whom 0 and 1 have 2 and 3 hangers out and owe coins; the baskets 2 and 3 of the
     * day 2 are half ironed, 4 of the day 3 misses its only piece, 5 is ready; four pieces are lost; the order is by
     * minutes; there are a snapshot, a full history and a text.
     */
    static IroningBaskets busy() {
        IroningBaskets x = withCustomers(0, 3, 0);
        sendHangers(x, 0, 2);
        sendHangers(x, 1, 3);
        x.basket(0, 2121, 2, 0);
        x.basket(1, 3203, 1, 0);
        x.pass(1);
        x.basket(1, 1, 0, 0);
        x.basket(0, 1, 0, 0);
        x.lose(2, 0);
        x.lose(3, 1);
        x.lose(4, 3);
        x.lose(3, 0);
        x.keep();
        x.set(0, 2);
        x.iron(8);
        x.iron(30);
        x.visit(3, 65);
        typeAll(x, "1:s2-1;0:l9");
        return x;
    }

    /** All that a state tells. */
    static String everything(IroningBaskets x) {
        StringBuilder all = new StringBuilder();
        for (int what = 0; what <= 22; what++) {
            if (what != 17 && what != 18) {
                all.append(x.count(what)).append(' ');
            }
        }
        for (int customer = 0; customer < x.count(1); customer++) {
            all.append("| customer");
            for (int what = 0; what <= 6; what++) {
                all.append(' ').append(x.customerOf(customer, what));
            }
        }
        for (int rank = 0; rank < x.count(2); rank++) {
            int basket = x.ordered(rank);
            all.append("| basket ").append(basket);
            for (int what = 0; what <= 9; what++) {
                all.append(' ').append(x.basketOf(basket, what));
            }
        }
        for (int piece = 0; piece < x.count(10); piece++) {
            all.append("| lost ").append(x.lost(piece, 0)).append(' ').append(x.lost(piece, 1));
        }
        for (int ago = 0; ago <= 9 && x.book(ago, 0) != NONE; ago++) {
            all.append("| book");
            for (int what = 0; what <= 3; what++) {
                all.append(' ').append(x.book(ago, what));
            }
        }
        return all.toString();
    }

    /** All that a state tells, and what of the text and the history can be seen without changing them. */
    static String everythingAndMore(IroningBaskets x) {
        return everything(x) + "| history " + x.count(17) + " text " + x.count(18) + " fault " + x.fault();
    }
}
