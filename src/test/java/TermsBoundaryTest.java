/** The edges that the document's section "Terms" names, a test for each; the sentence stands with it. */
public final class TermsBoundaryTest extends Checks {
    private static final int[] MINUTES = {5, 4, 6, 8};
    private static final int[] ONE_OF = {1000, 100, 10, 1};

    public static void main(String[] args) {
        pieces();
        prices();
        customersAndDays();
        daysOfTheWeek();
        basketsAndPins();
        ready();
        hangersInStock();
        hangersGivenBack();
        hangersPaid();
        hangersPaidOnTheirDay();
        settings();
        ironingMinutes();
        ironingStarch();
        ironingNext();
        orderByVisit();
        orderByMinutes();
        lostPieces();
        lostPiecesBelong();
        dayAndVan();
        theBook();
        theBookOfPayments();
        textOfBaskets();
        textOfKinds();
        textOfStarchAndHangers();
        history();
        historyOfActs();
        historyOfRefusals();
        states();
        placesUsedAgain();
        manyCalls();
        finish("TermsBoundaryTest");
    }

    private static void pieces() {
        of("PIECES");
        test("four kinds of pieces: -1 and 4 are none", () -> {
            IroningBaskets x = withBaskets(1111);
            due(x.lose(0, -1), UNKNOWN);
            due(x.lose(0, 4), UNKNOWN);
            due(x.lose(0, 0), 1);
            due(x.lose(0, 3), 2);
        });
        test("5, 4, 6 and 8 minutes: one fewer is too few", () -> {
            for (int kind = 0; kind < 4; kind++) {
                IroningBaskets x = withBaskets(ONE_OF[kind]);
                due("minutes of kind " + kind, x.basketOf(0, 8), MINUTES[kind]);
                due("too few for kind " + kind, x.iron(MINUTES[kind] - 1), 0);
                due("enough for kind " + kind, x.iron(MINUTES[kind]), 1);
            }
        });
        for (int kind = 0; kind < 4; kind++) {
            int itsKind = kind;
            test("1 minute more for each degree of starch (0 to 3), for the others not: kind " + kind, () -> {
                for (int starch = 0; starch <= 3; starch++) {
                    IroningBaskets x = withCustomers(0);
                    x.set(1, 0);
                    x.basket(0, ONE_OF[itsKind], starch, 0);
                    int minutes = MINUTES[itsKind] + (itsKind < 2 ? starch : 0);
                    due("minutes with starch " + starch, x.basketOf(0, 8), minutes);
                    due("too few with starch " + starch, x.iron(minutes - 1), 0);
                    due("enough with starch " + starch, x.iron(minutes), 1);
                    due("ironed with starch " + starch, x.count(14), minutes);
                }
            });
        }
    }

    private static void prices() {
        of("PIECES");
        int[][] prices = {{3, 3, 4, 4}, {2, 3, 3, 4}, {3, 3, 3, 3}, {4, 4, 4, 4}};
        for (int kind = 0; kind < 4; kind++) {
            int itsKind = kind;
            test("half of its minutes (rounded up): kind " + kind, () -> {
                for (int starch = 0; starch <= 3; starch++) {
                    IroningBaskets x = withCustomers(0);
                    x.basket(0, ONE_OF[itsKind], starch, 0);
                    due("price with starch " + starch, x.basketOf(0, 7), prices[itsKind][starch]);
                }
            });
        }
        test("the price of a piece is rounded, not that of all pieces", () -> {
            IroningBaskets x = withBaskets(9000, 1);
            due(x.basketOf(0, 7), 27);
            x = withBaskets(2000);
            due(x.basketOf(0, 7), 6);
        });
        test("the dearest basket has nine of each kind and starch 3", () -> {
            IroningBaskets x = withCustomers(0);
            x.basket(0, 9999, 3, 0);
            due(x.basketOf(0, 7), 9 * (4 + 4 + 3 + 4));
            due(x.basketOf(0, 8), 9 * (8 + 7 + 6 + 8));
        });
    }

    private static void customersAndDays() {
        of("CUSTOMERS");
        test("at most 10 customers, numbered from 0: the tenth is 9, there is no eleventh", () -> {
            IroningBaskets x = withCustomers(0, 1, 2, 3, 4, 0, 1, 2, 3);
            due(x.customer(4), 9);
            due(x.customer(4), FULL);
            due(x.customerOf(9, 0), 4);
            due(x.customerOf(10, 0), UNKNOWN);
        });
        test("a district (0 to 4): the first, the last, and those outside", () -> {
            IroningBaskets x = new IroningBaskets();
            due(x.customer(-1), UNKNOWN);
            due(x.customer(5), UNKNOWN);
            due(x.customer(0), 0);
            due(x.customer(4), 1);
            due(x.customerOf(0, 0), 0);
            due(x.customerOf(1, 0), 4);
        });
        test("several customers may be in one district", () -> {
            IroningBaskets x = withCustomers(2, 2);
            x.visit(2, 0);
            due(x.customerOf(0, 6), NONE);
            due(x.customerOf(1, 6), NONE);
        });
        test("days are numbered from 0", () -> {
            IroningBaskets x = new IroningBaskets();
            due(x.count(0), 0);
            x.pass(1);
            due(x.count(0), 1);
        });
    }

    private static void daysOfTheWeek() {
        of("CUSTOMERS");
        for (int weekday = 0; weekday < 7; weekday++) {
            int itsDay = weekday;
            test("the day of the week is the day modulo 7: the van comes on the weekday " + weekday, () -> {
                IroningBaskets x = withBaskets(1);
                x.visit(0, 1 << itsDay);
                x.iron(8);
                int first = itsDay == 0 ? 7 : itsDay;
                due(x.customerOf(0, 6), first);
                due(first == 1 ? 0 : x.pass(first - 1), 0);
                due(x.pass(1), 1);
                due(x.customerOf(0, 6), first + 7);
            });
            test("not on another day than the weekday " + weekday, () -> {
                IroningBaskets x = withBaskets(1);
                x.visit(0, 127 - (1 << itsDay));
                x.iron(8);
                due(x.customerOf(0, 6), itsDay == 1 ? 2 : 1);
                due(x.pass(1), itsDay == 1 ? 0 : 1);
            });
        }
        test("modulo 7 goes on around: from the day 6 to the day 7", () -> {
            IroningBaskets x = withBaskets(1);
            x.visit(0, 1);
            x.iron(8);
            due(x.pass(6), 0);
            due(x.customerOf(0, 6), 7);
            due(x.pass(1), 1);
        });
        test("modulo 7 holds on the last day: 9999 is a weekday 3", () -> {
            IroningBaskets x = withBaskets(1);
            for (int i = 0; i < 100; i++) {
                x.pass(99);
            }
            x.visit(0, 1 << 3);
            x.pass(96);
            x.iron(8);
            due(x.pass(2), 0);
            due(x.count(0), 9998);
            due(x.customerOf(0, 6), 9999);
            due(x.pass(1), 1);
            due(x.customerOf(0, 6), 10006);
        });
        test("at first all 7 days: 127", () -> {
            IroningBaskets x = withCustomers(0);
            for (int day = 1; day <= 7; day++) {
                x.basket(0, 1, 0, 0);
                x.iron(8);
                due("taken on the day " + day, x.pass(1), 1);
            }
            for (int district = 0; district < 5; district++) {
                due("days of the district " + district, x.visit(district, 0), 127);
            }
        });
    }

    private static void basketsAndPins() {
        of("BASKETS");
        test("a basket has a number (from 0, at most 99 ever): the last is 98", () -> {
            IroningBaskets x = withCustomers(0);
            for (int i = 0; i < 98; i++) {
                x.basket(0, 1, 0, 0);
                x.iron(8);
                x.pass(1);
            }
            due(x.basket(0, 1, 0, 0), 98);
            due(x.basketOf(98, 9), 98);
            due(x.basket(0, 1, 0, 0), FULL);
            due(x.basketOf(99, 0), UNKNOWN);
            due(x.count(4), 99);
        });
        test("a number is not given twice: those that left keep theirs", () -> {
            IroningBaskets x = withBaskets(1);
            x.iron(8);
            x.pass(1);
            due(x.basket(0, 1, 0, 0), 1);
            due(x.basketOf(0, 0), UNKNOWN);
        });
        test("pieces of each kind (0 to 9)", () -> {
            IroningBaskets x = withBaskets(9999, 1, 10, 100, 1000, 9000, 909, 90);
            int[] pieces = {9999, 1, 10, 100, 1000, 9000, 909, 90};
            for (int i = 0; i < pieces.length; i++) {
                due("pieces of " + i, x.basketOf(i, 3), pieces[i]);
            }
        });
        test("the pins (0 to 7): the eighth basket has the pin 7", () -> {
            IroningBaskets x = withBaskets(1, 1, 1, 1, 1, 1, 1, 1);
            for (int i = 0; i < 8; i++) {
                due("pin of " + i, x.basketOf(i, 1), i);
            }
        });
        test("the lowest pin that no basket that is here has: gaps are filled from below", () -> {
            IroningBaskets x = withBaskets(2, 1, 2, 2, 1, 2, 2, 1);
            x.set(0, 2);
            x.iron(24);
            due(x.pass(1), 3);
            due(x.basket(0, 1, 0, 0), 8);
            due(x.basketOf(8, 1), 1);
            due(x.basket(0, 1, 0, 0), 9);
            due(x.basketOf(9, 1), 4);
            due(x.basket(0, 1, 0, 0), 10);
            due(x.basketOf(10, 1), 7);
            due(x.basket(0, 1, 0, 0), FULL);
        });
        test("it is here until the van takes it: ready ones wait for the van", () -> {
            IroningBaskets x = withBaskets(1);
            x.visit(0, 1 << 2);
            x.iron(8);
            x.pass(1);
            due(x.basketOf(0, 6), 1);
            x.pass(1);
            due(x.basketOf(0, 6), UNKNOWN);
        });
    }

    private static void ready() {
        of("BASKETS");
        for (int kind = 0; kind < 4; kind++) {
            int itsKind = kind;
            test("ready if all its pieces are ironed: one of the kind " + kind + " is left", () -> {
                IroningBaskets x = withBaskets(ONE_OF[itsKind] * 2);
                due(x.iron(MINUTES[itsKind]), 1);
                due(x.basketOf(0, 6), 0);
                due(x.count(3), 0);
                due(x.iron(MINUTES[itsKind]), 1);
                due(x.basketOf(0, 6), 1);
                due(x.count(3), 1);
            });
            test("and none of them is lost: one of the kind " + kind + " is", () -> {
                IroningBaskets x = withBaskets(ONE_OF[itsKind] * 2);
                x.lose(0, itsKind);
                due(x.iron(600), 1);
                due(x.basketOf(0, 6), 0);
                x.find(0, 0);
                due(x.basketOf(0, 6), 0);
                due(x.iron(600), 1);
                due(x.basketOf(0, 6), 1);
            });
        }
        test("a basket whose only piece is lost is not ready", () -> {
            IroningBaskets x = withBaskets(1);
            x.lose(0, 3);
            due(x.basketOf(0, 6), 0);
            due(x.pass(7), 0);
        });
    }

    private static void hangersInStock() {
        of("HANGERS");
        test("60 hangers at first, all in stock: the sixtieth is taken, there is no sixty-first", () -> {
            IroningBaskets x = withBaskets(9990, 9990, 7000);
            due(x.count(5), 60);
            due(x.iron(600), 60);
            due(x.count(5), 0);
            due(x.basketOf(2, 4), 6000);
            due(x.iron(600), 0);
        });
        for (int kind = 0; kind < 4; kind++) {
            int itsKind = kind;
            test("a piece of the kinds 0 to 2 takes a hanger as it is ironed: kind " + kind, () -> {
                IroningBaskets x = withBaskets(ONE_OF[itsKind]);
                due(x.count(5), 60);
                x.iron(8);
                due(x.count(5), itsKind == 3 ? 60 : 59);
                due(x.count(6), itsKind == 3 ? 0 : 1);
                due(x.count(7), 0);
                x.pass(1);
                due(x.count(5), itsKind == 3 ? 60 : 59);
                due(x.count(6), 0);
                due(x.count(7), itsKind == 3 ? 0 : 1);
                due(x.customerOf(0, 1), itsKind == 3 ? 0 : 1);
            });
        }
        test("bought hangers come into the stock: one of none is used", () -> {
            IroningBaskets x = withBaskets(9990, 9990, 7000);
            x.iron(600);
            due(x.buy(1), 1);
            due(x.iron(600), 1);
            due(x.count(5), 0);
        });
        test("hangers given back can be used again", () -> {
            IroningBaskets x = withBaskets(9990, 9990, 6000);
            x.iron(600);
            x.pass(1);
            due(x.basket(0, 2000, 0, 1), 3);
            due(x.count(5), 1);
            due(x.iron(600), 1);
            due(x.basketOf(3, 4), 1000);
        });
    }

    private static void hangersGivenBack() {
        of("HANGERS");
        // Two hangers are out since the day 1, three since the day 2, four since the day 3.
        int[][] left = {{0, 9, 1}, {1, 8, 1}, {2, 7, 2}, {3, 6, 2}, {4, 5, 2}, {5, 4, 3}, {8, 1, 3}, {9, 0, NONE}};
        for (int[] due : left) {
            test("those first that are out the longest: " + due[0] + " of 2, 3 and 4", () -> {
                IroningBaskets x = withCustomers(0);
                sendHangers(x, 0, 2);
                sendHangers(x, 0, 3);
                sendHangers(x, 0, 4);
                due(x.basket(0, 1, 0, due[0]), 3);
                due(x.customerOf(0, 1), due[1]);
                due(x.customerOf(0, 5), due[2]);
                due(x.count(5), 60 - due[1]);
                due(x.count(7), due[1]);
            });
        }
        test("more than all that are out are not there", () -> {
            IroningBaskets x = withCustomers(0);
            sendHangers(x, 0, 2);
            due(x.basket(0, 1, 0, 3), NOT_POSSIBLE);
            due(x.customerOf(0, 1), 2);
            due(x.basket(0, 1, 0, 2), 1);
        });
        test("a customer gives its own hangers back, not another's", () -> {
            IroningBaskets x = withCustomers(0, 0);
            sendHangers(x, 0, 5);
            due(x.basket(1, 1, 0, 1), NOT_POSSIBLE);
            sendHangers(x, 1, 2);
            due(x.basket(1, 1, 0, 2), 2);
            due(x.customerOf(0, 1), 5);
            due(x.customerOf(0, 5), 1);
            due(x.customerOf(1, 1), 0);
        });
        test("when one customer's are all back, another's stay with it", () -> {
            IroningBaskets x = withCustomers(0, 0, 0);
            sendHangers(x, 0, 2);
            sendHangers(x, 1, 3);
            sendHangers(x, 2, 4);
            x.basket(0, 1, 0, 2);
            due(x.customerOf(0, 1), 0);
            due(x.customerOf(1, 1), 3);
            due(x.customerOf(1, 5), 2);
            due(x.customerOf(2, 1), 4);
            due(x.customerOf(2, 5), 3);
        });
        test("99 hangers may be given back at once", () -> {
            IroningBaskets x = withCustomers(0);
            x.buy(39);
            for (int i = 0; i < 3; i++) {
                sendHangers(x, 0, 27);
            }
            sendHangers(x, 0, 18);
            due(x.customerOf(0, 1), 99);
            due(x.basket(0, 1, 0, 99), 4);
            due(x.customerOf(0, 1), 0);
            due(x.count(5), 99);
        });
    }

    private static void hangersPaid() {
        of("HANGERS");
        for (int grace : new int[] {1, 2, 14, 59, 60}) {
            test("out for more than the grace: " + grace + " days are not, one more is", () -> {
                IroningBaskets x = withCustomers(0);
                x.set(2, grace);
                sendHangers(x, 0, 3);
                x.pass(grace);
                due(x.count(0), 1 + grace);
                due(x.customerOf(0, 1), 3);
                due(x.customerOf(0, 3), 0);
                x.pass(1);
                due(x.customerOf(0, 1), 0);
                due(x.customerOf(0, 3), 3);
            });
        }
        for (int price : new int[] {0, 1, 2, 99}) {
            test("each for the price of a hanger: " + price, () -> {
                IroningBaskets x = withCustomers(0);
                x.set(3, price);
                sendHangers(x, 0, 3);
                x.pay(0);
                x.pass(14);
                due(x.customerOf(0, 2), 0);
                x.pass(1);
                due(x.customerOf(0, 2), 3 * price);
                due(x.customerOf(0, 3), 3);
                due(x.book(0, 0), 2);
                due(x.book(0, 3), 3 * price);
            });
        }
        test("they are the customer's then: they are paid once", () -> {
            IroningBaskets x = withCustomers(0);
            sendHangers(x, 0, 3);
            x.pass(99);
            x.pass(99);
            due(x.customerOf(0, 3), 3);
            due(x.customerOf(0, 2), 9 + 6);
        });
        test("they are the customer's then: neither out nor in stock, nor to be given back", () -> {
            IroningBaskets x = withCustomers(0);
            sendHangers(x, 0, 3);
            x.pass(15);
            due(x.count(5), 57);
            due(x.count(6), 0);
            due(x.count(7), 0);
            due(x.count(8), 3);
            due(x.basket(0, 1, 0, 1), NOT_POSSIBLE);
        });
    }

    private static void hangersPaidOnTheirDay() {
        of("HANGERS");
        test("as a day begins: not as the grace is made shorter", () -> {
            IroningBaskets x = withCustomers(0);
            sendHangers(x, 0, 3);
            x.pass(5);
            x.set(2, 1);
            due(x.customerOf(0, 1), 3);
            x.pass(1);
            due(x.customerOf(0, 1), 0);
            due(x.customerOf(0, 3), 3);
        });
        test("a longer grace comes in time on the last day", () -> {
            IroningBaskets x = withCustomers(0);
            sendHangers(x, 0, 3);
            x.pass(14);
            x.set(2, 15);
            x.pass(1);
            due(x.customerOf(0, 1), 3);
            x.pass(1);
            due(x.customerOf(0, 1), 0);
        });
        test("what is given back on the last day is not paid, the rest is", () -> {
            IroningBaskets x = withCustomers(0);
            sendHangers(x, 0, 5);
            x.pass(14);
            x.basket(0, 1, 0, 3);
            x.pass(1);
            due(x.customerOf(0, 3), 2);
            due(x.customerOf(0, 1), 0);
        });
        test("those that went out a day later are paid a day later", () -> {
            IroningBaskets x = withCustomers(0);
            sendHangers(x, 0, 2);
            sendHangers(x, 0, 3);
            x.pass(14);
            due(x.customerOf(0, 3), 2);
            due(x.customerOf(0, 5), 2);
            x.pass(1);
            due(x.customerOf(0, 3), 5);
            due(x.customerOf(0, 5), NONE);
        });
        test("hangers that go out on a day are out for 0 days on it", () -> {
            IroningBaskets x = withCustomers(0);
            x.set(2, 1);
            sendHangers(x, 0, 2);
            due(x.customerOf(0, 1), 2);
            x.pass(1);
            due(x.customerOf(0, 1), 2);
            x.pass(1);
            due(x.customerOf(0, 1), 0);
        });
        test("in one call of pass each day begins for itself", () -> {
            IroningBaskets x = withCustomers(0);
            sendHangers(x, 0, 2);
            x.pass(99);
            due(x.book(0, 0), 2);
            due(x.book(0, 1), 16);
        });
    }

    private static void settings() {
        of("The settings");
        int[][] ranges = {{0, 2, 0}, {0, 20, 3}, {1, 60, 14}, {0, 99, 2}};
        String[] names = {"the order (0 to 2; 0)", "minutes to stir the pot anew (0 to 20; 3)",
            "the grace (1 to 60; 14)", "the price of a hanger (0 to 99; 2)"};
        for (int which = 0; which < 4; which++) {
            int it = which;
            int least = ranges[which][0];
            int most = ranges[which][1];
            int first = ranges[which][2];
            test(names[which] + ": the first value", () -> {
                due(new IroningBaskets().count(19 + it), first);
                due(new IroningBaskets().set(it, first), NONE);
            });
            test(names[which] + ": the lowest, and below", () -> {
                IroningBaskets x = new IroningBaskets();
                due(x.set(it, least - 1), BAD_VALUE);
                due(x.set(it, Integer.MIN_VALUE), BAD_VALUE);
                due(x.set(it, most), first);
                due(x.set(it, least), most);
                due(x.count(19 + it), least);
            });
            test(names[which] + ": the highest, and above", () -> {
                IroningBaskets x = new IroningBaskets();
                due(x.set(it, most + 1), BAD_VALUE);
                due(x.set(it, Integer.MAX_VALUE), BAD_VALUE);
                due(x.set(it, most), first);
                due(x.count(19 + it), most);
            });
        }
    }

    private static void ironingMinutes() {
        of("IRONING");
        test("as long as there are minutes enough: 1 minute is enough for nothing", () -> {
            IroningBaskets x = withBaskets(1111);
            due(x.iron(1), 0);
            due(x.count(13), 0);
            due(x.count(14), 0);
        });
        test("the last minute is used, and one fewer irons one piece fewer", () -> {
            due(withBaskets(1111).iron(23), 4);
            due(withBaskets(1111).iron(22), 3);
        });
        test("what is left of the minutes is lost: it is not there the next time", () -> {
            IroningBaskets x = withBaskets(2);
            due(x.iron(15), 1);
            due(x.iron(1), 0);
            due(x.iron(7), 0);
            due(x.iron(8), 1);
            due(x.count(14), 16);
        });
        test("ironing ends at the next piece, although a shorter one would fit", () -> {
            IroningBaskets x = withBaskets(1, 100);
            due(x.iron(7), 0);
            due(x.iron(11), 1);
            due(x.iron(4), 1);
        });
        test("it ends, too, if there is no such piece", () -> {
            due(new IroningBaskets().iron(600), 0);
            due(withCustomers(0).iron(600), 0);
            IroningBaskets x = withBaskets(1);
            due(x.iron(600), 1);
            due(x.iron(600), 0);
            due(x.count(14), 8);
        });
        test("600 minutes iron 150 blouses at most, and 288 pieces at most are here", () -> {
            IroningBaskets x = withBaskets(9999, 9999, 9999, 9999, 9999, 9999, 9999, 9999);
            for (int i = 0; i < 3; i++) {
                x.buy(99);
            }
            int ironed = 0;
            for (int i = 0; i < 4; i++) {
                ironed += x.iron(600);
            }
            due(ironed, 288);
            due(x.count(14), 8 * 9 * 23);
            due(x.count(3), 8);
            due(x.pass(1), 8);
        });
    }

    private static void ironingStarch() {
        of("IRONING");
        test("a degree of starch (0 at first): degree 0 needs no stirring at first", () -> {
            IroningBaskets x = withBaskets(1000);
            due(x.count(11), 0);
            due(x.iron(5), 1);
            due(x.count(12), 0);
        });
        test("before it the minutes to stir: both suffice, or neither is done", () -> {
            IroningBaskets x = withCustomers(0);
            x.basket(0, 1000, 1, 0);
            due(x.iron(8), 0);
            due(x.count(11), 0);
            due(x.count(12), 0);
            due(x.count(14), 0);
            due(x.iron(9), 1);
            due(x.count(11), 1);
            due(x.count(12), 1);
            due(x.count(14), 9);
        });
        test("its degree of starch (also 0) is not that of the pot", () -> {
            IroningBaskets x = withCustomers(0);
            x.basket(0, 100, 3, 0);
            x.basket(0, 1000, 0, 0);
            x.iron(10);
            due(x.count(11), 3);
            due(x.iron(7), 0);
            due(x.count(11), 3);
            due(x.iron(8), 1);
            due(x.count(11), 0);
            due(x.count(12), 2);
        });
        test("the pot keeps its degree: the second piece needs no stirring, also on another day", () -> {
            IroningBaskets x = withCustomers(0);
            x.basket(0, 2100, 2, 0);
            due(x.iron(10), 1);
            due(x.iron(7), 1);
            x.pass(1);
            due(x.iron(6), 1);
            due(x.count(12), 1);
        });
        test("if it is of the kind 0 or 1: trousers and sheets leave the pot as it is", () -> {
            IroningBaskets x = withCustomers(0);
            x.basket(0, 11, 3, 0);
            due(x.iron(14), 2);
            due(x.count(11), 0);
            due(x.count(12), 0);
        });
        for (int minutes : new int[] {0, 1, 20}) {
            test("minutes to stir the pot anew: " + minutes, () -> {
                IroningBaskets x = withCustomers(0);
                x.set(1, minutes);
                x.basket(0, 100, 1, 0);
                due(x.iron(4 + minutes), 0);
                due(x.iron(5 + minutes), 1);
                due(x.count(12), 1);
                due(x.count(14), 5 + minutes);
            });
        }
    }

    private static void ironingNext() {
        of("IRONING");
        test("a piece of the lowest such kind is next", () -> {
            IroningBaskets x = withBaskets(1111);
            int[] minutes = {5, 4, 6, 8};
            int[] ironed = {1000, 1100, 1110, 1111};
            for (int i = 0; i < 4; i++) {
                due("piece " + i, x.iron(minutes[i]), 1);
                due("ironed after " + i, x.basketOf(0, 4), ironed[i]);
            }
        });
        test("not lost: the lowest kind that is not lost is next", () -> {
            IroningBaskets x = withBaskets(1111);
            x.lose(0, 0);
            x.lose(0, 1);
            due(x.iron(6), 1);
            due(x.basketOf(0, 4), 10);
        });
        test("a hanger is in stock if it takes one: without one the sheets of the same basket are next", () -> {
            IroningBaskets x = withBaskets(9990, 9990, 6000, 1);
            x.iron(600);
            due(x.count(5), 0);
            x.basket(0, 1111, 0, 0);
            due(x.iron(8), 1);
            due(x.basketOf(4, 4), 1);
            due(x.iron(600), 0);
        });
        test("the first one that has such a piece: one without is passed over", () -> {
            IroningBaskets x = withBaskets(9990, 9990, 7000, 1);
            due(x.iron(600), 61);
            due(x.basketOf(2, 4), 6000);
            due(x.basketOf(3, 4), 1);
        });
        test("one whose pieces are all lost is passed over", () -> {
            IroningBaskets x = withBaskets(1, 1);
            x.lose(0, 3);
            due(x.iron(8), 1);
            due(x.basketOf(0, 4), 0);
            due(x.basketOf(1, 4), 1);
        });
        test("0 by the numbers of the baskets", () -> {
            IroningBaskets x = withBaskets(2, 1, 100);
            x.iron(8);
            due(x.basketOf(0, 4), 1);
            x.iron(8);
            due(x.basketOf(0, 4), 2);
            x.iron(8);
            due(x.basketOf(1, 4), 1);
        });
    }

    private static void orderByVisit() {
        of("IRONING, the order 1");
        test("from tomorrow on: a visit of today is a week away", () -> {
            IroningBaskets x = withCustomers(0, 1);
            x.set(0, 1);
            x.visit(0, 1 << 3);
            x.visit(1, 1 << 4);
            x.basket(0, 1, 0, 0);
            x.basket(1, 1, 0, 0);
            x.pass(2);
            due(x.ordered(0), 0);
            x.pass(1);
            due(x.ordered(0), 1);
            due(x.customerOf(0, 6), 10);
            x.iron(8);
            due(x.basketOf(1, 4), 1);
            x.pass(1);
            due(x.ordered(0), 0);
        });
        test("never is last, also behind a whole week", () -> {
            IroningBaskets x = withCustomers(0, 1);
            x.set(0, 1);
            x.visit(0, 0);
            x.visit(1, 1);
            x.basket(0, 1, 0, 0);
            x.basket(1, 1, 0, 0);
            due(x.customerOf(1, 6), 7);
            due(x.ordered(0), 1);
            due(x.ordered(1), 0);
        });
        test("of several by numbers, also of several that are never visited", () -> {
            IroningBaskets x = withCustomers(0, 1, 2, 3);
            x.set(0, 1);
            x.visit(0, 0);
            x.visit(1, 0);
            for (int customer : new int[] {1, 3, 0, 2, 1}) {
                x.basket(customer, 1, 0, 0);
            }
            int[] order = {1, 3, 0, 2, 4};
            for (int rank = 0; rank < 5; rank++) {
                due("rank " + rank, x.ordered(rank), order[rank]);
            }
        });
    }

    private static void orderByMinutes() {
        of("IRONING, the order 2");
        test("the fewest first: one minute fewer is enough", () -> {
            IroningBaskets x = withCustomers(0);
            x.set(0, 2);
            x.basket(0, 1000, 0, 0);
            x.basket(0, 100, 0, 0);
            due(x.ordered(0), 1);
            x.iron(4);
            due(x.basketOf(1, 4), 100);
        });
        test("of several by numbers: as many minutes by other pieces", () -> {
            IroningBaskets x = withCustomers(0);
            x.set(0, 2);
            x.basket(0, 1, 0, 0);
            x.basket(0, 1000, 3, 0);
            x.basket(0, 200, 0, 0);
            for (int rank = 0; rank < 3; rank++) {
                due("rank " + rank, x.ordered(rank), rank);
            }
        });
        test("starch of the pot aside: stirring does not count", () -> {
            IroningBaskets x = withCustomers(0);
            x.set(0, 2);
            x.set(1, 20);
            x.basket(0, 10, 0, 0);
            x.basket(0, 100, 1, 0);
            due(x.ordered(0), 1);
            due(x.iron(6), 0);
            due(x.iron(25), 1);
        });
        test("that are not ironed and not lost: both make a basket come sooner", () -> {
            IroningBaskets x = withCustomers(0);
            x.basket(0, 1, 0, 0);
            x.basket(0, 2, 0, 0);
            x.basket(0, 3, 0, 0);
            x.set(0, 2);
            x.lose(2, 3);
            x.lose(2, 3);
            x.lose(2, 3);
            due(x.ordered(0), 2);
            x.lose(1, 3);
            due(x.ordered(1), 0);
            due(x.ordered(2), 1);
            x.iron(8);
            due(x.ordered(0), 0);
            due(x.ordered(1), 2);
        });
        test("anew for each piece: a piece of the second makes it the first", () -> {
            IroningBaskets x = withBaskets(2, 20);
            x.iron(8);
            x.set(0, 2);
            due(x.ordered(0), 0);
            x.basket(0, 1000, 0, 0);
            due(x.iron(5 + 8 + 6), 3);
            due(x.basketOf(2, 4), 1000);
            due(x.basketOf(0, 4), 2);
            due(x.basketOf(1, 4), 10);
        });
        test("by minutes, one that must wait for hangers is passed over", () -> {
            IroningBaskets x = withBaskets(9990, 9990, 6000, 100, 3);
            x.iron(600);
            x.set(0, 2);
            due(x.basketOf(4, 4), 3);
            x.basket(0, 9, 0, 0);
            due(x.iron(8), 1);
            due(x.basketOf(5, 4), 1);
            due(x.basketOf(3, 4), 0);
        });
    }

    private static void lostPieces() {
        of("LOST PINS");
        test("a piece that is not ironed can lose its pin: an ironed one cannot", () -> {
            IroningBaskets x = withBaskets(2);
            x.iron(8);
            due(x.lose(0, 3), 1);
            due(x.lose(0, 3), NONE);
        });
        test("a degree of starch (0 for the kinds 2 and 3)", () -> {
            IroningBaskets x = withCustomers(0);
            x.basket(0, 1111, 3, 0);
            for (int kind = 0; kind < 4; kind++) {
                x.lose(0, kind);
                due("kind " + kind, x.lost(kind, 0), kind);
                due("degree of kind " + kind, x.lost(kind, 1), kind < 2 ? 3 : 0);
            }
        });
        // The pieces 0, 1, 2 and 3 are of the kinds 0, 1, 2 and 3.
        for (int found = 0; found < 4; found++) {
            int it = found;
            test("a number from 0; those behind it move up: when " + found + " of 0 to 3 is found", () -> {
                IroningBaskets x = withBaskets(1111);
                for (int kind = 0; kind < 4; kind++) {
                    due("lost " + kind, x.lose(0, kind), kind + 1);
                }
                due(x.find(it, 0), 3);
                for (int piece = 0; piece < 3; piece++) {
                    due("piece " + piece, x.lost(piece, 0), piece < it ? piece : piece + 1);
                }
                due(x.lost(3, 0), UNKNOWN);
            });
        }
        test("those behind it move up with their degrees", () -> {
            IroningBaskets x = withCustomers(0);
            for (int starch = 3; starch >= 0; starch--) {
                x.basket(0, 1000, starch, 0);
                x.lose(3 - starch, 0);
            }
            due(x.find(1, 1), 3);
            due(x.lost(0, 1), 3);
            due(x.lost(1, 1), 1);
            due(x.lost(2, 1), 0);
            due(x.find(0, 0), 2);
            due(x.lost(0, 1), 1);
            due(x.lost(1, 1), 0);
        });
        test("a piece lost after one was found comes last", () -> {
            IroningBaskets x = withBaskets(1111);
            x.lose(0, 3);
            x.lose(0, 2);
            x.find(0, 0);
            due(x.lose(0, 0), 2);
            due(x.lost(0, 0), 2);
            due(x.lost(1, 0), 0);
        });
    }

    private static void lostPiecesBelong() {
        of("LOST PINS");
        test("a basket misses a lost piece of its own until one is found for it", () -> {
            IroningBaskets x = withBaskets(2, 2);
            x.lose(0, 3);
            x.lose(1, 3);
            due(x.find(0, 1), 1);
            due(x.basketOf(0, 5), 1);
            due(x.basketOf(1, 5), 0);
            due(x.find(0, 1), NOT_POSSIBLE);
            due(x.find(0, 0), 0);
            due(x.basketOf(0, 5), 0);
        });
        test("that misses a piece of that kind: not one that misses another kind", () -> {
            IroningBaskets x = withBaskets(1111, 1111);
            x.lose(0, 2);
            x.lose(1, 3);
            due(x.find(0, 1), NOT_POSSIBLE);
            due(x.find(1, 0), NOT_POSSIBLE);
            due(x.lost(0, 2), 1);
        });
        for (int kind = 0; kind < 4; kind++) {
            int itsKind = kind;
            test("of that kind and degree: baskets of other degrees and the kind " + kind, () -> {
                IroningBaskets x = withCustomers(0);
                x.basket(0, 1111, 0, 0);
                x.basket(0, 1111, 3, 0);
                x.lose(0, itsKind);
                x.lose(1, itsKind);
                due(x.lost(0, 2), itsKind < 2 ? 1 : 2);
                due(x.find(0, 1), itsKind < 2 ? NOT_POSSIBLE : 1);
            });
        }
        test("any basket that is here: another customer's, too", () -> {
            IroningBaskets x = withCustomers(0, 4);
            x.basket(0, 1, 0, 0);
            x.basket(1, 1, 0, 0);
            x.lose(0, 3);
            x.lose(1, 3);
            due(x.find(0, 1), 1);
            due(x.find(0, 0), 0);
        });
        test("not a basket that has such a piece and misses none", () -> {
            IroningBaskets x = withBaskets(1, 1);
            x.lose(0, 3);
            due(x.find(0, 1), NOT_POSSIBLE);
            due(x.lost(0, 2), 1);
            due(x.lost(0, 3), 0);
        });
    }

    private static void dayAndVan() {
        of("A DAY");
        test("visited on that day of the week: that of the new day, not of the old one", () -> {
            IroningBaskets x = withBaskets(1);
            x.visit(0, 1);
            x.iron(8);
            due(x.pass(1), 0);
            x.visit(0, 2);
            due(x.pass(1), 0);
            x.visit(0, 1 << 3);
            due(x.pass(1), 1);
        });
        test("each basket that is ready and visited: one of four is both", () -> {
            IroningBaskets x = withCustomers(0, 1);
            x.visit(1, 0);
            x.basket(0, 1, 0, 0);
            x.basket(1, 1, 0, 0);
            x.iron(16);
            x.basket(0, 1, 0, 0);
            x.basket(1, 1, 0, 0);
            due(x.pass(1), 1);
            due(x.basketOf(0, 0), UNKNOWN);
            due(x.count(2), 3);
        });
        test("then hangers are paid, then the van takes: in the book, too", () -> {
            IroningBaskets x = withCustomers(0);
            x.set(2, 1);
            sendHangers(x, 0, 2);
            x.basket(0, 10, 0, 0);
            x.iron(6);
            x.visit(0, 1 << 3);
            due(x.pass(2), 1);
            due(x.book(0, 0), 1);
            due(x.book(1, 0), 2);
            due(x.book(0, 1), 3);
            due(x.book(1, 1), 3);
        });
        test("by numbers, whatever the order is", () -> {
            IroningBaskets x = withBaskets(3, 2, 1);
            x.set(0, 2);
            x.iron(48);
            due(x.pass(1), 3);
            due(x.book(0, 2), 2);
            due(x.book(1, 2), 1);
            due(x.book(2, 2), 0);
        });
        test("the customer owes the price of all its pieces more", () -> {
            IroningBaskets x = withCustomers(0);
            x.basket(0, 1, 0, 0);
            x.iron(600);
            x.pass(1);
            due(x.customerOf(0, 2), 4);
            x.basket(0, 1111, 3, 0);
            x.iron(600);
            x.pass(1);
            due(x.customerOf(0, 2), 4 + 15);
        });
        test("its hangers go out on this day", () -> {
            IroningBaskets x = withBaskets(1110);
            x.iron(15);
            x.visit(0, 1 << 5);
            x.pass(5);
            due(x.customerOf(0, 1), 3);
            due(x.customerOf(0, 5), 5);
        });
        test("its pin is free: a full shelf has room on the day that begins", () -> {
            IroningBaskets x = withBaskets(1, 1, 1, 1, 1, 1, 1, 1);
            x.iron(8);
            due(x.basket(0, 1, 0, 0), FULL);
            due(x.pass(1), 1);
            due(x.basket(0, 1, 0, 0), 8);
            due(x.basketOf(8, 1), 0);
        });
    }

    private static void theBook() {
        of("THE BOOK");
        test("empty at first", () -> due(new IroningBaskets().book(0, 0), NONE));
        for (int events : new int[] {1, 9, 10, 11, 19, 20, 21}) {
            test("the latest 10 of what happened: of " + events, () -> {
                IroningBaskets x = withBaskets(9);
                for (int i = 1; i < events; i++) {
                    if (i % 2 == 1) {
                        x.lose(0, 3);
                    } else {
                        x.find(0, 0);
                    }
                }
                for (int ago = 0; ago < 10; ago++) {
                    int event = events - 1 - ago;
                    due("event " + event, x.book(ago, 0), event < 0 ? NONE : event == 0 ? 0 : event % 2 == 1 ? 3 : 4);
                }
            });
        }
        test("a basket came: hangers given back, from 0", () -> {
            IroningBaskets x = withCustomers(0, 0);
            x.basket(1, 10, 0, 0);
            due(x.book(0, 3), 0);
            x.iron(6);
            x.pass(4);
            x.basket(1, 1, 0, 1);
            int[] due = {0, 4, 1, 1};
            for (int what = 0; what < 4; what++) {
                due("what " + what, x.book(0, what), due[what]);
            }
        });
        test("the van took a basket: the basket and the price", () -> {
            IroningBaskets x = withCustomers(0, 0);
            x.basket(1, 1, 0, 0);
            x.basket(1, 1000, 2, 0);
            x.iron(600);
            x.pass(1);
            int[][] due = {{1, 1, 1, 4}, {1, 1, 0, 4}};
            for (int what = 0; what < 4; what++) {
                due("latest " + what, x.book(0, what), due[0][what]);
                due("before " + what, x.book(1, what), due[1][what]);
            }
        });
        test("a piece was lost, a lost piece was found: the basket and the kind", () -> {
            IroningBaskets x = withBaskets(1111, 1111);
            x.pass(2);
            x.lose(1, 2);
            x.lose(0, 2);
            x.find(0, 0);
            int[][] due = {{4, 2, 0, 2}, {3, 2, 0, 2}, {3, 2, 1, 2}};
            for (int ago = 0; ago < 3; ago++) {
                for (int what = 0; what < 4; what++) {
                    due("what " + what + " of " + ago, x.book(ago, what), due[ago][what]);
                }
            }
        });
        test("nothing else happens: customers, visits, ironing, buying, paying and settings are not told", () -> {
            IroningBaskets x = withBaskets(1);
            x.iron(8);
            x.pass(1);
            x.customer(1);
            x.visit(0, 3);
            x.iron(1);
            x.buy(1);
            x.pay(0);
            x.set(0, 1);
            x.pass(1);
            due(x.book(0, 0), 1);
            due(x.book(1, 0), 0);
            due(x.book(2, 0), NONE);
        });
    }

    private static void theBookOfPayments() {
        of("THE BOOK");
        test("hangers were paid: the customer and the coins", () -> {
            IroningBaskets x = withCustomers(0, 0);
            sendHangers(x, 1, 4);
            x.set(3, 7);
            x.pass(15);
            int[] due = {2, 16, 1, 28};
            for (int what = 0; what < 4; what++) {
                due("what " + what, x.book(0, what), due[what]);
            }
            due(x.book(1, 0), 1);
        });
        test("once for a customer and a day: two days' hangers are paid as one", () -> {
            IroningBaskets x = withCustomers(0);
            sendHangers(x, 0, 1);
            sendHangers(x, 0, 2);
            x.pass(5);
            x.set(2, 1);
            x.pass(1);
            due(x.book(0, 0), 2);
            due(x.book(0, 3), 6);
            due(x.book(1, 0), 1);
        });
        test("for each customer one, by their numbers", () -> {
            IroningBaskets x = withCustomers(0, 0, 0);
            x.basket(2, 10, 0, 0);
            x.basket(0, 10, 0, 0);
            x.iron(12);
            x.pass(16);
            due(x.book(0, 2), 2);
            due(x.book(1, 2), 0);
            due(x.book(2, 0), 1);
        });
        test("for each day one", () -> {
            IroningBaskets x = withCustomers(0);
            sendHangers(x, 0, 1);
            sendHangers(x, 0, 2);
            x.pass(99);
            due(x.book(0, 1), 17);
            due(x.book(0, 3), 4);
            due(x.book(1, 1), 16);
            due(x.book(1, 3), 2);
        });
        test("none on a day on which none are paid", () -> {
            IroningBaskets x = withCustomers(0);
            sendHangers(x, 0, 1);
            x.basket(0, 1, 0, 1);
            x.pass(99);
            due(x.book(0, 0), 0);
        });
    }

    private static void textOfBaskets() {
        of("TEXTS");
        test("at most 60 characters", () -> {
            IroningBaskets x = withText(times(12, "0:l1"));
            due(x.count(18), 59);
            due(x.fault(), NONE);
            due(x.type(';'), 60);
            due(x.type('0'), FULL);
            due(x.fault(), 60);
        });
        test("60 characters may be right to the last one", () -> {
            String sixty = times(10, "0:l1") + ";0:s1l1*3-9";
            due(withText(sixty).count(18), 60);
            dueFault(sixty, NONE);
            dueFault(sixty + ";", NONE);
        });
        test("60 characters: the last one is looked at", () -> {
            dueFault(times(10, "0:l1") + ";0:s1l1*3-x", 59);
            dueFault(times(10, "0:l1") + ";0:s1l1-99;", 60);
        });
        test("empty at first: the empty text ends too early", () -> due(new IroningBaskets().fault(), 0));
        test("one or more baskets with ; between two", () -> {
            dueFault("0:s1", NONE);
            dueFault("0:s1;0:s1", NONE);
            dueFault("0:s1;0:s1;9:l9", NONE);
        });
        test("no ; in front", () -> dueFault(";0:s1", 0));
        test("no ; behind the last", () -> dueFault("0:s1;", 5));
        test("one ; and not two", () -> dueFault("0:s1;;0:s1", 5));
        test("no basket without a ;", () -> dueFault("0:s10:s1", 4));
        for (char digit = '0'; digit <= '9'; digit++) {
            char itsDigit = digit;
            test("the customer (a digit): " + digit, () -> dueFault(itsDigit + ":s1", NONE));
        }
        test("the customer is one digit", () -> dueFault("10:s1", 1));
        test("signs beside the digits are none", () -> {
            dueFault("/:s1", 0);
            dueFault("::s1", 0);
        });
        test(": behind the customer", () -> {
            dueFault("0s1", 1);
            dueFault("0;", 1);
            dueFault("0", 1);
        });
        test("each new basket begins anew: kinds, starch and hangers may come again", () -> {
            dueFault("0:l1*3-99;0:s1*1-1", NONE);
            dueFault("0:l1;0:l1l1", 9);
        });
    }

    private static void textOfKinds() {
        of("TEXTS");
        test("one or more kinds: none is too few", () -> {
            dueFault("0:", 2);
            dueFault("0:*1", 2);
            dueFault("0:-1", 2);
            dueFault("0:;0:s1", 2);
        });
        test("s, b, t, l for 0 to 3", () -> {
            IroningBaskets x = withCustomers(0);
            typeAll(x, "0:s1b2t3l4");
            due(x.baskets(), 1);
            due(x.basketOf(0, 3), 1234);
        });
        String kinds = "sbtl";
        for (int first = 0; first < 4; first++) {
            for (int second = 0; second < 4; second++) {
                String text = "0:" + kinds.charAt(first) + "1" + kinds.charAt(second) + "1";
                int due = second > first ? NONE : 4;
                test("in this order, each once at most: " + text, () -> dueFault(text, due));
            }
        }
        test("in this order, also over one between them", () -> {
            dueFault("0:s1t1b1", 6);
            dueFault("0:s1l1s1", 6);
            dueFault("0:b1t1l1s1", 8);
            dueFault("0:s1b1t1l1l1", 10);
        });
        test("other signs are no kinds", () -> {
            dueFault("0:S1", 2);
            dueFault("0:a1", 2);
            dueFault("0:u1", 2);
            dueFault("0: s1", 2);
        });
        test("a digit 1 to 9: the lowest and the highest", () -> {
            dueFault("0:s1", NONE);
            dueFault("0:s9", NONE);
        });
        test("a digit 1 to 9: 0 is too low, and those beside it are no digits", () -> {
            dueFault("0:s0", 3);
            dueFault("0:s/", 3);
            dueFault("0:s:", 3);
        });
        test("one digit: a second is too many", () -> dueFault("0:s12", 4));
        test("a digit behind each kind: none is too few", () -> {
            dueFault("0:s", 3);
            dueFault("0:sb1", 3);
            dueFault("0:s1b", 5);
            dueFault("0:s1b*1", 5);
        });
    }

    private static void textOfStarchAndHangers() {
        of("TEXTS");
        test("the degree of starch (1 to 3)", () -> {
            dueFault("0:s1*1", NONE);
            dueFault("0:s1*3", NONE);
        });
        test("0 and 4 are no degrees", () -> {
            dueFault("0:s1*0", 5);
            dueFault("0:s1*4", 5);
        });
        test("* and no degree", () -> {
            dueFault("0:s1*", 5);
            dueFault("0:s1*-1", 5);
            dueFault("0:s1*;", 5);
        });
        test("one degree", () -> {
            dueFault("0:s1*11", 6);
            dueFault("0:s1*1*1", 6);
        });
        test("no kind behind the degree", () -> dueFault("0:s1*1b1", 6));
        test("0 if it is left out, also behind a basket with one", () -> {
            IroningBaskets x = withCustomers(0);
            typeAll(x, "0:s1*3;0:s1");
            due(x.baskets(), 2);
            due(x.basketOf(0, 2), 3);
            due(x.basketOf(1, 2), 0);
        });
        test("hangers that are given back (1 to 99)", () -> {
            dueFault("0:s1-1", NONE);
            dueFault("0:s1-9", NONE);
            dueFault("0:s1-10", NONE);
            dueFault("0:s1-99", NONE);
            dueFault("0:s1-100", 7);
        });
        test("without a zero in front, and 0 is too few", () -> {
            dueFault("0:s1-0", 5);
            dueFault("0:s1-01", 5);
        });
        test("- and no hangers", () -> {
            dueFault("0:s1-", 5);
            dueFault("0:s1-;", 5);
        });
        test("hangers once, and nothing but ; behind them", () -> {
            dueFault("0:s1-1-1", 6);
            dueFault("0:s1-12-1", 7);
            dueFault("0:s1-1*1", 6);
            dueFault("0:s1-12*1", 7);
            dueFault("0:s1-1b1", 6);
        });
        test("signs beside the digits are no hangers", () -> {
            dueFault("0:s1-/", 5);
            dueFault("0:s1-:", 5);
            dueFault("0:s1-1/", 6);
            dueFault("0:s1-1:", 6);
            dueFault("0:s1*/", 5);
        });
        test("two digits are tens and ones", () -> {
            for (int hangers : new int[] {9, 10, 11, 19, 25, 27}) {
                IroningBaskets x = withCustomers(0);
                sendHangers(x, 0, 27);
                typeAll(x, "0:l1-" + hangers);
                due("baskets with " + hangers, x.baskets(), 1);
                due("given back", x.book(0, 3), hangers);
                due("left", x.customerOf(0, 1), 27 - hangers);
            }
        });
        test("none if they are left out, also behind a basket with some", () -> {
            IroningBaskets x = withCustomers(0);
            sendHangers(x, 0, 3);
            typeAll(x, "0:s1-2;0:s1");
            due(x.baskets(), 2);
            due(x.book(1, 3), 2);
            due(x.book(0, 3), 0);
        });
        test("the index of the first character that is not allowed, not of a later one", () -> {
            dueFault("0:s0b0", 3);
            dueFault("x", 0);
            dueFault("0:s1;x:x", 5);
        });
    }

    private static void dueFault(String text, int want) {
        due("fault of \"" + text + "\"", withText(text).fault(), want);
    }

    private static void history() {
        of("HISTORY");
        for (int acts = 0; acts <= 6; acts++) {
            int itsActs = acts;
            test("a history of at most 4 states: after " + acts + " acts", () -> {
                IroningBaskets x = new IroningBaskets();
                for (int i = 0; i < itsActs; i++) {
                    x.customer(0);
                }
                int states = Math.min(4, itsActs);
                due(x.count(17), states);
                for (int left = states - 1; left >= 0; left--) {
                    due("undo to " + left, x.undo(), left);
                }
                due(x.undo(), NONE);
                due(x.count(1), itsActs - states);
            });
        }
        test("when one more is recorded the oldest one is dropped, again and again", () -> {
            IroningBaskets x = new IroningBaskets();
            for (int i = 0; i < 9; i++) {
                x.buy(1);
            }
            x.undo();
            x.undo();
            for (int i = 0; i < 3; i++) {
                x.pass(1);
            }
            due(x.count(17), 4);
            for (int i = 0; i < 4; i++) {
                x.undo();
            }
            due(x.count(0), 0);
            due(x.count(9), 6);
            due(x.undo(), NONE);
        });
        test("each call of an act records: one that changes no answer, too", () -> {
            IroningBaskets x = new IroningBaskets();
            due(x.iron(1), 0);
            due(x.count(17), 1);
            x.keep();
            due(x.restore(), 0);
            due(x.count(17), 2);
        });
        test("what is not an act does not record", () -> {
            IroningBaskets x = withBaskets(1111);
            x.lose(0, 0);
            due(x.count(17), 3);
            x.type('0');
            x.fault();
            x.clearText();
            x.keep();
            x.customerOf(0, 0);
            x.basketOf(0, 0);
            x.lost(0, 0);
            x.ordered(0);
            x.book(0, 0);
            x.count(0);
            x.meanMinutes();
            x.ifIroned(0, 600, 0);
            x.bestOrder(600);
            x.homeOn(0, 600);
            x.wanting();
            x.sure();
            due(x.count(17), 3);
        });
    }

    /** An act. */
    private interface Act {
        int on(IroningBaskets x);
    }

    private static void recorded(String name, Act act) {
        test("each call of an act records the state that was before it: " + name, () -> {
            IroningBaskets x = busy();
            String before = everything(x);
            due(act.on(x) >= 0 ? 1 : 0, 1);
            due(x.count(17), 4);
            due(x.undo(), 3);
            due("what was before", everything(x), before);
            IroningBaskets same = busy();
            x.undo();
            same.undo();
            due("what was before that", everything(x), everything(same));
        });
    }

    private static void historyOfActs() {
        of("HISTORY");
        recorded("customer", x -> x.customer(2));
        recorded("visit", x -> x.visit(0, 8));
        recorded("basket", x -> x.basket(0, 1111, 3, 2));
        recorded("baskets", x -> x.baskets());
        recorded("lose", x -> x.lose(2, 3));
        recorded("find", x -> x.find(0, 2));
        recorded("find of the last", x -> x.find(3, 3));
        recorded("iron", x -> x.iron(600));
        recorded("pass", x -> x.pass(20));
        recorded("buy", x -> x.buy(7));
        recorded("pay", x -> x.pay(0));
        recorded("set of the order", x -> x.set(0, 1));
        recorded("set of the minutes", x -> x.set(1, 0));
        recorded("set of the grace", x -> x.set(2, 1));
        recorded("set of the price", x -> x.set(3, 50));
        recorded("restore", x -> x.restore());
        test("four acts are undone to the last, also if they used places again", () -> {
            IroningBaskets x = busy();
            String before = everything(x);
            due(x.pass(20), 1);
            due(x.basket(2, 4321, 1, 0), 6);
            due(x.find(0, 2), 3);
            due(x.baskets(), NOT_POSSIBLE);
            due(x.lose(6, 0), 4);
            for (int left = 3; left >= 0; left--) {
                due("undo", x.undo(), left);
            }
            due("what was before", everything(x), before);
            due(x.baskets(), 2);
        });
    }

    private static void historyOfRefusals() {
        of("HISTORY");
        test("a call that returns an error does not record", () -> {
            IroningBaskets x = new IroningBaskets();
            x.customer(5);
            x.visit(0, 128);
            x.basket(0, 1, 0, 0);
            x.baskets();
            x.lose(0, 0);
            x.find(0, 0);
            x.iron(0);
            x.pass(0);
            x.buy(0);
            x.pay(0);
            x.set(0, 3);
            due(x.count(17), 0);
        });
        test("a call that returns NONE does not record", () -> {
            IroningBaskets x = new IroningBaskets();
            due(x.visit(0, 127), NONE);
            due(x.set(0, 0), NONE);
            due(x.restore(), NONE);
            due(x.undo(), NONE);
            due(x.count(17), 0);
            x.customer(0);
            due(x.pay(0), NONE);
            x.basket(0, 1, 0, 0);
            due(x.lose(0, 0), NONE);
            due(x.count(17), 2);
        });
        test("a refused call drops nothing from a full history", () -> {
            IroningBaskets x = withCustomers(0, 1, 2, 3);
            x.customer(5);
            x.pay(0);
            due(x.count(17), 4);
            for (int i = 3; i >= 0; i--) {
                due("undo to " + i, x.undo(), i);
            }
            due(x.count(1), 0);
        });
    }

    private static void states() {
        of("HISTORY");
        test("there is one snapshot, empty at first", () -> {
            IroningBaskets x = new IroningBaskets();
            due(x.restore(), NONE);
            x.pass(1);
            x.keep();
            x.pass(1);
            x.keep();
            x.pass(1);
            due(x.restore(), 2);
            due(x.restore(), 2);
        });
        test("everything but the text: undo and restore leave it", () -> {
            IroningBaskets x = withCustomers(0);
            x.keep();
            typeAll(x, "0:s");
            x.undo();
            due(x.count(18), 3);
            x.customer(1);
            x.restore();
            due(x.count(18), 3);
            due(x.fault(), 3);
            due(x.type('1'), 4);
            due(x.baskets(), 1);
        });
        test("everything but the history: restore does not bring it back", () -> {
            IroningBaskets x = withCustomers(0);
            x.keep();
            x.customer(1);
            x.customer(2);
            x.restore();
            due(x.count(17), 4);
            due(x.undo(), 3);
            due(x.count(1), 3);
        });
        test("everything but the snapshot: undo does not take it away or bring it back", () -> {
            IroningBaskets x = new IroningBaskets();
            x.pass(1);
            x.keep();
            due(x.undo(), 0);
            due(x.restore(), 1);
            x.pass(1);
            x.keep();
            x.undo();
            x.undo();
            due(x.restore(), 2);
        });
        test("a state holds the sets of days", () -> {
            IroningBaskets x = new IroningBaskets();
            x.keep();
            x.visit(4, 5);
            x.undo();
            due(x.visit(4, 127), NONE);
            x.visit(4, 6);
            x.restore();
            due(x.visit(4, 127), NONE);
        });
    }

    private static void placesUsedAgain() {
        of("HISTORY");
        test("a customer that comes after undo has nothing of the one that was", () -> {
            IroningBaskets x = new IroningBaskets();
            x.keep();
            x.customer(4);
            sendHangers(x, 0, 3);
            x.pass(20);
            due(x.customerOf(0, 2), 15);
            x.restore();
            x.customer(1);
            int[] due = {1, 0, 0, 0, 0, NONE, 1};
            for (int what = 0; what <= 6; what++) {
                due("what " + what, x.customerOf(0, what), due[what]);
            }
        });
        test("a basket that comes after undo has nothing of the one that was", () -> {
            IroningBaskets x = withCustomers(0, 1);
            x.keep();
            x.pass(5);
            x.basket(0, 9999, 3, 0);
            for (int kind = 0; kind < 4; kind++) {
                x.lose(0, kind);
            }
            x.iron(100);
            x.restore();
            x.basket(1, 1111, 1, 0);
            int[] due = {1, 0, 1, 1111, 0, 0, 0, 3 + 3 + 3 + 4, 6 + 5 + 6 + 8, 0};
            for (int what = 0; what <= 9; what++) {
                due("what " + what, x.basketOf(0, what), due[what]);
            }
            due(x.count(10), 0);
        });
        test("the book after undo goes on from the events that are left", () -> {
            IroningBaskets x = withBaskets(9);
            x.lose(0, 3);
            x.undo();
            due(x.book(0, 0), 0);
            due(x.book(1, 0), NONE);
            x.pass(1);
            x.lose(0, 3);
            due(x.book(0, 1), 1);
            due(x.book(1, 0), 0);
            due(x.book(2, 0), NONE);
        });
    }

    private static void manyCalls() {
        of("What it is");
        test("at most 512 calls: 507 acts, and the last four are undone", () -> {
            IroningBaskets x = new IroningBaskets();
            for (int i = 0; i < 507; i++) {
                due("act " + i, x.set(3, 3 + i % 90), i == 0 ? 2 : 3 + (i - 1) % 90);
            }
            for (int left = 3; left >= 0; left--) {
                due("undo", x.undo(), left);
            }
            due(x.set(3, 3 + 502 % 90), NONE);
        });
        test("at most 512 calls: 506 events, and the tenth latest is known", () -> {
            IroningBaskets x = withBaskets(1);
            for (int i = 0; i < 252; i++) {
                due("lose " + i, x.lose(0, 3), 1);
                due("find " + i, x.find(0, 0), 0);
            }
            due(x.lose(0, 3), 1);
            for (int ago = 0; ago < 5; ago++) {
                due("event " + ago, x.book(ago == 4 ? 9 : ago, 0), ago % 2 == 0 && ago < 4 ? 3 : 4);
            }
        });
        test("at most 512 calls: a customer that comes and is undone, again and again", () -> {
            IroningBaskets x = new IroningBaskets();
            for (int i = 0; i < 256; i++) {
                due("customer " + i, x.customer(i % 5), 0);
                due("undo " + i, x.undo(), 0);
            }
        });
        test("at most 512 calls: the most coins, pieces and days add up", () -> {
            IroningBaskets x = withCustomers(0);
            x.set(3, 99);
            for (int i = 0; i < 99; i++) {
                x.basket(0, 9999, 3, 0);
                x.buy(27);
                x.iron(600);
                x.pass(99);
            }
            due(x.count(0), 99 * 99);
            due(x.count(4), 99);
            due(x.count(13), 99 * 36);
            due(x.count(14), 3 + 99 * 9 * (8 + 7 + 6 + 8));
            due(x.count(8), 99 * 27);
            due(x.count(15), 99 * (9 * 15 + 27 * 99));
            due(x.pay(0), 99 * (9 * 15 + 27 * 99));
            due(x.count(16), 99 * (9 * 15 + 27 * 99));
        });
    }
}
