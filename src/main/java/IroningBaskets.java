/** An ironing service. ../shared/DOC.md says, as numbered promises, what each call does. */
public final class IroningBaskets {
    /** There is no such customer, basket (that is here), district, kind or lost piece. */
    public static final int UNKNOWN = -1;
    /** Another argument is out of range. */
    public static final int BAD_VALUE = -2;
    /** There is no more room. */
    public static final int FULL = -3;
    /** This is not possible. */
    public static final int NOT_POSSIBLE = -4;
    /** There is no such thing; not an error. */
    public static final int NONE = -5;

    private static final int DISTRICTS = 5;
    private static final int KINDS = 4;
    private static final int MOST_STARCH = 3;

    private static final int MOST_CUSTOMERS = 10;
    private static final int MOST_HERE = 8;
    private static final int MOST_EVER = 99;
    private static final int MOST_PIECES = 9999;
    private static final int MOST_PIECES_HERE = MOST_HERE * KINDS * 9;
    private static final int MOST_LOST = 20;
    private static final int MOST_EVENTS = 10;
    private static final int MOST_STATES = 4;

    private static final int FIRST_HANGERS = 60;
    private static final int MOST_HANGERS = 999;
    private static final int MOST_GIVEN = 99;
    private static final int MOST_BOUGHT = 99;

    private static final int WEEK = 7;
    private static final int EVERY_DAY = 127;
    private static final int LAST_DAY = 9999;
    private static final int MOST_DAYS = 99;
    private static final int MOST_MINUTES = 600;
    private static final int DAYS_AHEAD = 60;
    private static final int BEHIND_ALL_DAYS = 1000000;

    private static final int SETTINGS = 4;
    private static final int ORDER = 0;
    private static final int STIRRING = 1;
    private static final int GRACE = 2;
    private static final int HANGER_PRICE = 3;
    private static final int BY_NUMBER = 0;
    private static final int BY_VISIT = 1;
    private static final int BY_MINUTES = 2;

    private static final int EVENT_CAME = 0;
    private static final int EVENT_TAKEN = 1;
    private static final int EVENT_PAID = 2;
    private static final int EVENT_LOST = 3;
    private static final int EVENT_FOUND = 4;

    private static final int MOST_CHARACTERS = 60;
    // The shortest basket of a text has 4 characters, and all but the last have a ";" behind them.
    private static final int MOST_READ = (MOST_CHARACTERS + 1) / 5;
    private static final int TEXT_FAULT = -100;

    private final State now = new State();
    private final State snapshot = new State();
    // Where it is tried what would be; one for all calls, so that no call makes objects.
    private final State trial = new State();
    private final History history = new History();
    private final BasketText text = new BasketText();
    private boolean kept;

    /** Creates a service without customers, on the day 0. */
    public IroningBaskets() {
    }

    // ---- customers, baskets

    public int customer(int district) {
        if (!within(district, 0, DISTRICTS - 1)) {
            return UNKNOWN;
        }
        if (now.customers.number >= MOST_CUSTOMERS) {
            return FULL;
        }
        history.push(now);
        return now.customers.enter(district);
    }

    public int visit(int district, int days) {
        if (!within(district, 0, DISTRICTS - 1)) {
            return UNKNOWN;
        }
        if (!within(days, 0, EVERY_DAY)) {
            return BAD_VALUE;
        }
        int previous = now.visits[district];
        if (previous == days) {
            return NONE;
        }
        history.push(now);
        now.visits[district] = days;
        return previous;
    }

    public int basket(int customer, int pieces, int starch, int hangers) {
        int refusal = now.refusal(customer, pieces, starch, hangers);
        if (refusal < 0) {
            return refusal;
        }
        history.push(now);
        return now.receive(customer, pieces, starch, hangers);
    }

    public int baskets() {
        int place = text.read();
        if (place != NONE) {
            return TEXT_FAULT - place;
        }
        trial.copyFrom(now);
        for (int i = 0; i < text.baskets; i++) {
            int refusal = trial.refusal(text.customer[i], text.pieces[i], text.starch[i], text.hangers[i]);
            if (refusal < 0) {
                return refusal;
            }
            trial.receive(text.customer[i], text.pieces[i], text.starch[i], text.hangers[i]);
        }
        history.push(now);
        now.copyFrom(trial);
        return text.baskets;
    }

    public int lose(int basket, int kind) {
        Basket loser = now.shelf.withNumber(basket);
        if (loser == null || !within(kind, 0, KINDS - 1)) {
            return UNKNOWN;
        }
        // FULL comes first: NONE is returned only if no error applies.
        if (now.pinless.number >= MOST_LOST) {
            return FULL;
        }
        if (loser.open(kind) <= 0) {
            return NONE;
        }
        history.push(now);
        loser.missed[kind]++;
        now.pinless.append(kind, loser.degree(kind));
        now.journal.write(EVENT_LOST, now.day, basket, kind);
        return now.pinless.number;
    }

    public int find(int piece, int basket) {
        Basket owner = now.shelf.withNumber(basket);
        if (!now.pinless.has(piece) || owner == null) {
            return UNKNOWN;
        }
        int kind = now.pinless.kind[piece];
        if (!owner.misses(kind, now.pinless.degree[piece])) {
            return NOT_POSSIBLE;
        }
        history.push(now);
        owner.missed[kind]--;
        now.pinless.removeAt(piece);
        now.journal.write(EVENT_FOUND, now.day, basket, kind);
        return now.pinless.number;
    }

    // ---- work

    public int iron(int minutes) {
        if (!within(minutes, 1, MOST_MINUTES)) {
            return BAD_VALUE;
        }
        history.push(now);
        return now.ironFor(minutes);
    }

    public int pass(int days) {
        if (!within(days, 1, MOST_DAYS)) {
            return BAD_VALUE;
        }
        if (now.day + days > LAST_DAY) {
            return FULL;
        }
        history.push(now);
        int taken = 0;
        for (int i = 0; i < days; i++) {
            taken += now.nextDay();
        }
        return taken;
    }

    public int buy(int hangers) {
        if (!within(hangers, 1, MOST_BOUGHT)) {
            return BAD_VALUE;
        }
        if (now.hangersOfTheService() + hangers > MOST_HANGERS) {
            return FULL;
        }
        history.push(now);
        now.stock += hangers;
        now.bought += hangers;
        return now.stock;
    }

    public int pay(int customer) {
        if (!now.customers.has(customer)) {
            return UNKNOWN;
        }
        int coins = now.customers.owes[customer];
        if (coins == 0) {
            return NONE;
        }
        history.push(now);
        now.customers.owes[customer] = 0;
        now.coinsPaid += coins;
        return coins;
    }

    public int set(int which, int value) {
        if (!within(which, 0, SETTINGS - 1) || !within(value, lowest(which), highest(which))) {
            return BAD_VALUE;
        }
        int previous = now.settings[which];
        if (previous == value) {
            return NONE;
        }
        history.push(now);
        now.settings[which] = value;
        return previous;
    }

    // ---- texts

    public int type(char character) {
        if (text.length >= MOST_CHARACTERS) {
            return FULL;
        }
        text.append(character);
        return text.length;
    }

    public int clearText() {
        int previous = text.length;
        text.length = 0;
        return previous;
    }

    public int fault() {
        return text.read();
    }

    // ---- history

    public int undo() {
        if (history.states == 0) {
            return NONE;
        }
        history.popInto(now);
        return history.states;
    }

    public int keep() {
        snapshot.copyFrom(now);
        kept = true;
        return now.day;
    }

    public int restore() {
        if (!kept) {
            return NONE;
        }
        history.push(now);
        now.copyFrom(snapshot);
        return now.day;
    }

    // ---- what is told

    public int customerOf(int customer, int what) {
        if (!now.customers.has(customer)) {
            return UNKNOWN;
        }
        switch (what) {
            case 0: return now.customers.district[customer];
            case 1: return now.out.outTo(customer);
            case 2: return now.customers.owes[customer];
            case 3: return now.customers.hangersPaid[customer];
            case 4: return now.shelf.numberFrom(customer);
            case 5: return now.out.firstDay(customer);
            case 6: return now.nextVisit(now.customers.district[customer]);
            default: return BAD_VALUE;
        }
    }

    public int basketOf(int basket, int what) {
        Basket told = now.shelf.withNumber(basket);
        if (told == null) {
            return UNKNOWN;
        }
        switch (what) {
            case 0: return told.customer;
            case 1: return told.pin;
            case 2: return told.starch;
            case 3: return Basket.asDigits(told.pieces);
            case 4: return Basket.asDigits(told.ironed);
            case 5: return Basket.asDigits(told.missed);
            case 6: return told.isReady() ? 1 : 0;
            case 7: return told.price();
            case 8: return told.openMinutes();
            case 9: return told.day;
            default: return BAD_VALUE;
        }
    }

    public int lost(int piece, int what) {
        if (!now.pinless.has(piece)) {
            return UNKNOWN;
        }
        int kind = now.pinless.kind[piece];
        int degree = now.pinless.degree[piece];
        switch (what) {
            case 0: return kind;
            case 1: return degree;
            case 2: return now.shelf.numberMissing(kind, degree);
            case 3: return now.shelf.lowestMissing(kind, degree);
            default: return BAD_VALUE;
        }
    }

    public int ordered(int rank) {
        if (rank < 0) {
            return BAD_VALUE;
        }
        return now.basketAtRank(rank);
    }

    public int book(int ago, int what) {
        if (!within(ago, 0, MOST_EVENTS - 1) || !within(what, 0, Journal.COLUMNS - 1)) {
            return BAD_VALUE;
        }
        return now.journal.tell(ago, what);
    }

    public int count(int what) {
        switch (what) {
            case 0: return now.day;
            case 1: return now.customers.number;
            case 2: return now.shelf.number;
            case 3: return now.shelf.numberReady();
            case 4: return now.shelf.came;
            case 5: return now.stock;
            case 6: return now.shelf.hangersOnPieces();
            case 7: return now.out.outToAll();
            case 8: return now.customers.hangersPaidByAll();
            case 9: return now.bought;
            case 10: return now.pinless.number;
            case 11: return now.board.pot;
            case 12: return now.board.stirred;
            case 13: return now.board.pieces;
            case 14: return now.board.minutes;
            case 15: return now.customers.owedByAll();
            case 16: return now.coinsPaid;
            case 17: return history.states;
            case 18: return text.length;
            case 19: return now.settings[ORDER];
            case 20: return now.settings[STIRRING];
            case 21: return now.settings[GRACE];
            case 22: return now.settings[HANGER_PRICE];
            default: return BAD_VALUE;
        }
    }

    public float meanMinutes() {
        if (now.board.pieces == 0) {
            return 0.0f;
        }
        return (float) now.board.minutes / (float) now.board.pieces;
    }

    // ---- what would be

    public int ifIroned(int order, int minutes, int what) {
        if (!within(order, BY_NUMBER, BY_MINUTES) || !within(minutes, 1, MOST_MINUTES) || !within(what, 0, 2)) {
            return BAD_VALUE;
        }
        int pieces = tryOrder(order, minutes);
        switch (what) {
            case 0: return pieces;
            case 1: return trial.shelf.numberReady();
            default: return trial.board.stirred - now.board.stirred;
        }
    }

    public int bestOrder(int minutes) {
        if (!within(minutes, 1, MOST_MINUTES)) {
            return BAD_VALUE;
        }
        int best = BY_NUMBER;
        int mostReady = -1;
        int mostPieces = -1;
        for (int order = BY_NUMBER; order <= BY_MINUTES; order++) {
            int pieces = tryOrder(order, minutes);
            int ready = trial.shelf.numberReady();
            if (ready > mostReady || (ready == mostReady && pieces > mostPieces)) {
                best = order;
                mostReady = ready;
                mostPieces = pieces;
            }
        }
        return best;
    }

    public int homeOn(int basket, int minutes) {
        if (now.shelf.withNumber(basket) == null) {
            return UNKNOWN;
        }
        if (!within(minutes, 1, MOST_MINUTES)) {
            return BAD_VALUE;
        }
        trial.copyFrom(now);
        for (int i = 0; i < DAYS_AHEAD; i++) {
            trial.ironFor(minutes);
            trial.nextDay();
            if (trial.shelf.withNumber(basket) == null) {
                return trial.day;
            }
        }
        return NONE;
    }

    public int wanting() {
        return Math.max(0, now.shelf.hangersToCome() - now.stock);
    }

    public int sure() {
        int certain = 0;
        for (int i = 0; i < now.pinless.number; i++) {
            if (now.shelf.numberMissing(now.pinless.kind[i], now.pinless.degree[i]) == 1) {
                certain++;
            }
        }
        return certain;
    }

    // ---- help for the calls

    private int tryOrder(int order, int minutes) {
        trial.copyFrom(now);
        trial.settings[ORDER] = order;
        return trial.ironFor(minutes);
    }

    private static boolean within(int value, int least, int most) {
        return value >= least && value <= most;
    }

    private static int lowest(int setting) {
        return setting == GRACE ? 1 : 0;
    }

    private static int highest(int setting) {
        switch (setting) {
            case ORDER: return BY_MINUTES;
            case STIRRING: return 20;
            case GRACE: return 60;
            default: return 99;
        }
    }

    /** A basket that is here. */
    private static final class Basket {
        // Of the kinds, in their order: shirts, blouses, trousers, sheets.
        static final int[] MINUTES = {5, 4, 6, 8};
        static final int[] MINUTES_A_DEGREE = {1, 1, 0, 0};
        static final int[] HANGERS_TAKEN = {1, 1, 1, 0};
        static final int[] WEIGHTS = {1000, 100, 10, 1};

        int number;
        int customer;
        int pin;
        int starch;
        int day;
        final int[] pieces = new int[KINDS];
        final int[] ironed = new int[KINDS];
        final int[] missed = new int[KINDS];

        void copyFrom(Basket other) {
            number = other.number;
            customer = other.customer;
            pin = other.pin;
            starch = other.starch;
            day = other.day;
            System.arraycopy(other.pieces, 0, pieces, 0, KINDS);
            System.arraycopy(other.ironed, 0, ironed, 0, KINDS);
            System.arraycopy(other.missed, 0, missed, 0, KINDS);
        }

        void fill(int digits) {
            for (int kind = 0; kind < KINDS; kind++) {
                pieces[kind] = (digits / WEIGHTS[kind]) % 10;
                ironed[kind] = 0;
                missed[kind] = 0;
            }
        }

        static int asDigits(int[] pieces) {
            int digits = 0;
            for (int kind = 0; kind < KINDS; kind++) {
                digits = digits * 10 + pieces[kind];
            }
            return digits;
        }

        static boolean takesStarch(int kind) {
            return MINUTES_A_DEGREE[kind] > 0;
        }

        static boolean takesHanger(int kind) {
            return HANGERS_TAKEN[kind] > 0;
        }

        int degree(int kind) {
            return takesStarch(kind) ? starch : 0;
        }

        int minutes(int kind) {
            return MINUTES[kind] + MINUTES_A_DEGREE[kind] * starch;
        }

        /** Pieces of a kind that are neither ironed nor missed. */
        int open(int kind) {
            return pieces[kind] - ironed[kind] - missed[kind];
        }

        int openMinutes() {
            int sum = 0;
            for (int kind = 0; kind < KINDS; kind++) {
                sum += open(kind) * minutes(kind);
            }
            return sum;
        }

        int lowestIronable(boolean hangerInStock) {
            for (int kind = 0; kind < KINDS; kind++) {
                if (open(kind) > 0 && (hangerInStock || !takesHanger(kind))) {
                    return kind;
                }
            }
            return NONE;
        }

        boolean misses(int kind, int degree) {
            return missed[kind] > 0 && degree(kind) == degree;
        }

        boolean isReady() {
            for (int kind = 0; kind < KINDS; kind++) {
                if (ironed[kind] < pieces[kind]) {
                    return false;
                }
            }
            return true;
        }

        int price() {
            int coins = 0;
            for (int kind = 0; kind < KINDS; kind++) {
                coins += pieces[kind] * ((minutes(kind) + 1) / 2);
            }
            return coins;
        }

        static int needingHangers(int[] pieces) {
            int needing = 0;
            for (int kind = 0; kind < KINDS; kind++) {
                needing += HANGERS_TAKEN[kind] * pieces[kind];
            }
            return needing;
        }
    }

    /** The baskets that are here, by their numbers; those behind them wait to be used again. */
    private static final class Shelf {
        final Basket[] baskets = new Basket[MOST_HERE];
        int number;
        int came;

        Shelf() {
            for (int i = 0; i < MOST_HERE; i++) {
                baskets[i] = new Basket();
            }
        }

        void copyFrom(Shelf other) {
            number = other.number;
            came = other.came;
            for (int i = 0; i < number; i++) {
                baskets[i].copyFrom(other.baskets[i]);
            }
        }

        boolean isFull() {
            return number >= MOST_HERE || came >= MOST_EVER;
        }

        /** Only for a shelf that is not full. */
        Basket add() {
            int pin = lowestFreePin();
            Basket added = baskets[number];
            added.number = came;
            added.pin = pin;
            number++;
            came++;
            return added;
        }

        int lowestFreePin() {
            int used = 0;
            for (int i = 0; i < number; i++) {
                used |= 1 << baskets[i].pin;
            }
            int pin = 0;
            while (pin < MOST_HERE && ((used >> pin) & 1) != 0) {
                pin++;
            }
            return pin;
        }

        Basket withNumber(int sought) {
            for (int i = 0; i < number; i++) {
                if (baskets[i].number == sought) {
                    return baskets[i];
                }
            }
            return null;
        }

        int numberFrom(int customer) {
            int sum = 0;
            for (int i = 0; i < number; i++) {
                if (baskets[i].customer == customer) {
                    sum++;
                }
            }
            return sum;
        }

        int numberReady() {
            int ready = 0;
            for (int i = 0; i < number; i++) {
                if (baskets[i].isReady()) {
                    ready++;
                }
            }
            return ready;
        }

        int numberMissing(int kind, int degree) {
            int missing = 0;
            for (int i = 0; i < number; i++) {
                if (baskets[i].misses(kind, degree)) {
                    missing++;
                }
            }
            return missing;
        }

        int lowestMissing(int kind, int degree) {
            for (int i = 0; i < number; i++) {
                if (baskets[i].misses(kind, degree)) {
                    return baskets[i].number;
                }
            }
            return NONE;
        }

        int hangersOnPieces() {
            int sum = 0;
            for (int i = 0; i < number; i++) {
                sum += Basket.needingHangers(baskets[i].ironed);
            }
            return sum;
        }

        /** Hangers that pieces not ironed yet will take, lost pieces too. */
        int hangersToCome() {
            int sum = 0;
            for (int i = 0; i < number; i++) {
                sum += Basket.needingHangers(baskets[i].pieces) - Basket.needingHangers(baskets[i].ironed);
            }
            return sum;
        }
    }

    private static final class Customers {
        int number;
        final int[] district = new int[MOST_CUSTOMERS];
        final int[] owes = new int[MOST_CUSTOMERS];
        final int[] hangersPaid = new int[MOST_CUSTOMERS];

        void copyFrom(Customers other) {
            number = other.number;
            System.arraycopy(other.district, 0, district, 0, number);
            System.arraycopy(other.owes, 0, owes, 0, number);
            System.arraycopy(other.hangersPaid, 0, hangersPaid, 0, number);
        }

        boolean has(int customer) {
            return customer >= 0 && customer < number;
        }

        /** Only while there is room. */
        int enter(int itsDistrict) {
            int entered = number;
            district[entered] = itsDistrict;
            owes[entered] = 0;
            hangersPaid[entered] = 0;
            number++;
            return entered;
        }

        int owedByAll() {
            return sumOf(owes);
        }

        int hangersPaidByAll() {
            return sumOf(hangersPaid);
        }

        private int sumOf(int[] amounts) {
            int sum = 0;
            for (int i = 0; i < number; i++) {
                sum += amounts[i];
            }
            return sum;
        }
    }

    /** Hangers that are out, a batch for each basket that took some along, the oldest batch first. */
    private static final class HangersOut {
        final int[] customer = new int[MOST_EVER];
        final int[] day = new int[MOST_EVER];
        final int[] hangers = new int[MOST_EVER];
        int batches;

        void copyFrom(HangersOut other) {
            batches = other.batches;
            System.arraycopy(other.customer, 0, customer, 0, batches);
            System.arraycopy(other.day, 0, day, 0, batches);
            System.arraycopy(other.hangers, 0, hangers, 0, batches);
        }

        void send(int receiver, int today, int sent) {
            if (sent <= 0 || batches >= MOST_EVER) {
                return;
            }
            customer[batches] = receiver;
            day[batches] = today;
            hangers[batches] = sent;
            batches++;
        }

        int outTo(int holder) {
            int sum = 0;
            for (int i = 0; i < batches; i++) {
                if (customer[i] == holder) {
                    sum += hangers[i];
                }
            }
            return sum;
        }

        int outToAll() {
            int sum = 0;
            for (int i = 0; i < batches; i++) {
                sum += hangers[i];
            }
            return sum;
        }

        int firstDay(int holder) {
            for (int i = 0; i < batches; i++) {
                if (customer[i] == holder) {
                    return day[i];
                }
            }
            return NONE;
        }

        void takeBack(int holder, int given) {
            int left = given;
            for (int i = 0; i < batches; i++) {
                if (customer[i] == holder) {
                    int taken = Math.min(left, hangers[i]);
                    hangers[i] -= taken;
                    left -= taken;
                }
            }
            dropEmptyBatches();
        }

        boolean anyFromBefore(int limit) {
            return batches > 0 && day[0] < limit;
        }

        int takeFromBefore(int limit, int holder) {
            int taken = 0;
            for (int i = 0; i < batches; i++) {
                if (customer[i] == holder && day[i] < limit) {
                    taken += hangers[i];
                    hangers[i] = 0;
                }
            }
            dropEmptyBatches();
            return taken;
        }

        private void dropEmptyBatches() {
            int filled = 0;
            for (int i = 0; i < batches; i++) {
                if (hangers[i] > 0) {
                    customer[filled] = customer[i];
                    day[filled] = day[i];
                    hangers[filled] = hangers[i];
                    filled++;
                }
            }
            batches = filled;
        }
    }

    /** The pieces that have lost their pin, in the order in which they lost it. */
    private static final class PinlessPieces {
        final int[] kind = new int[MOST_LOST];
        final int[] degree = new int[MOST_LOST];
        int number;

        void copyFrom(PinlessPieces other) {
            number = other.number;
            System.arraycopy(other.kind, 0, kind, 0, number);
            System.arraycopy(other.degree, 0, degree, 0, number);
        }

        boolean has(int piece) {
            return piece >= 0 && piece < number;
        }

        /** Only while there is room. */
        void append(int itsKind, int itsDegree) {
            kind[number] = itsKind;
            degree[number] = itsDegree;
            number++;
        }

        /** Only for a piece that it has. */
        void removeAt(int piece) {
            for (int i = piece + 1; i < number; i++) {
                kind[i - 1] = kind[i];
                degree[i - 1] = degree[i];
            }
            number--;
        }
    }

    /** The ironing board: the pot of starch, and what was done so far. */
    private static final class Board {
        int pot;
        int stirred;
        int pieces;
        int minutes;

        void copyFrom(Board other) {
            pot = other.pot;
            stirred = other.stirred;
            pieces = other.pieces;
            minutes = other.minutes;
        }
    }

    /** The book: the latest events, each in the row after the one before, round and round. */
    private static final class Journal {
        static final int COLUMNS = 4;

        final int[] cells = new int[MOST_EVENTS * COLUMNS];
        int known;
        int latest;

        void copyFrom(Journal other) {
            known = other.known;
            latest = other.latest;
            System.arraycopy(other.cells, 0, cells, 0, MOST_EVENTS * COLUMNS);
        }

        void write(int event, int day, int number, int amount) {
            latest = (latest + 1) % MOST_EVENTS;
            known = Math.min(known + 1, MOST_EVENTS);
            int row = latest * COLUMNS;
            cells[row] = event;
            cells[row + 1] = day;
            cells[row + 2] = number;
            cells[row + 3] = amount;
        }

        int tell(int ago, int column) {
            if (ago < 0 || ago >= known || column < 0 || column >= COLUMNS) {
                return NONE;
            }
            return cells[((latest - ago + MOST_EVENTS) % MOST_EVENTS) * COLUMNS + column];
        }
    }

    /** All that undo and the snapshot bring back. */
    private static final class State {
        int day;
        int stock = FIRST_HANGERS;
        int bought;
        int coinsPaid;
        final int[] settings = {BY_NUMBER, 3, 14, 2};
        final int[] visits = {EVERY_DAY, EVERY_DAY, EVERY_DAY, EVERY_DAY, EVERY_DAY};
        final Customers customers = new Customers();
        final Shelf shelf = new Shelf();
        final HangersOut out = new HangersOut();
        final PinlessPieces pinless = new PinlessPieces();
        final Board board = new Board();
        final Journal journal = new Journal();

        void copyFrom(State other) {
            day = other.day;
            stock = other.stock;
            bought = other.bought;
            coinsPaid = other.coinsPaid;
            System.arraycopy(other.settings, 0, settings, 0, SETTINGS);
            System.arraycopy(other.visits, 0, visits, 0, DISTRICTS);
            customers.copyFrom(other.customers);
            shelf.copyFrom(other.shelf);
            out.copyFrom(other.out);
            pinless.copyFrom(other.pinless);
            board.copyFrom(other.board);
            journal.copyFrom(other.journal);
        }

        /** The error with which a basket is refused; 0 if it may come. */
        int refusal(int customer, int pieces, int starch, int hangers) {
            if (!customers.has(customer)) {
                return UNKNOWN;
            }
            if (!within(pieces, 1, MOST_PIECES) || !within(starch, 0, MOST_STARCH)
                    || !within(hangers, 0, MOST_GIVEN)) {
                return BAD_VALUE;
            }
            if (out.outTo(customer) < hangers) {
                return NOT_POSSIBLE;
            }
            return shelf.isFull() ? FULL : 0;
        }

        /** Only for a basket that is not refused. */
        int receive(int customer, int pieces, int starch, int hangers) {
            Basket added = shelf.add();
            added.customer = customer;
            added.starch = starch;
            added.day = day;
            added.fill(pieces);
            out.takeBack(customer, hangers);
            stock += hangers;
            journal.write(EVENT_CAME, day, added.number, hangers);
            return added.number;
        }

        /** Hangers that are not paid by customers, wherever they are. */
        int hangersOfTheService() {
            return stock + shelf.hangersOnPieces() + out.outToAll();
        }

        int nextVisit(int district) {
            for (int ahead = 1; ahead <= WEEK; ahead++) {
                if (isVisited(district, day + ahead)) {
                    return day + ahead;
                }
            }
            return NONE;
        }

        boolean isVisited(int district, int someDay) {
            return ((visits[district] >> (someDay % WEEK)) & 1) != 0;
        }

        /** The lower, the earlier its turn; of equal ones the one with the lower number comes first. */
        int turn(Basket basket) {
            switch (settings[ORDER]) {
                case BY_VISIT:
                    int next = nextVisit(customers.district[basket.customer]);
                    return next == NONE ? BEHIND_ALL_DAYS : next;
                case BY_MINUTES:
                    return basket.openMinutes();
                default:
                    return basket.number;
            }
        }

        int basketAtRank(int rank) {
            for (int i = 0; i < shelf.number; i++) {
                if (rankOf(i) == rank) {
                    return shelf.baskets[i].number;
                }
            }
            return NONE;
        }

        /** Only for a place on the shelf that is taken. */
        int rankOf(int place) {
            int turn = turn(shelf.baskets[place]);
            int before = 0;
            for (int i = 0; i < shelf.number; i++) {
                int other = turn(shelf.baskets[i]);
                if (other < turn || (other == turn && i < place)) {
                    before++;
                }
            }
            return before;
        }

        /** The first basket in the order with a piece that can be ironed now, or null. */
        Basket nextToIron() {
            Basket first = null;
            int firstTurn = 0;
            for (int i = 0; i < shelf.number; i++) {
                Basket basket = shelf.baskets[i];
                if (basket.lowestIronable(stock > 0) != NONE) {
                    int turn = turn(basket);
                    if (first == null || turn < firstTurn) {
                        first = basket;
                        firstTurn = turn;
                    }
                }
            }
            return first;
        }

        int ironFor(int minutes) {
            int left = minutes;
            for (int done = 0; done < MOST_PIECES_HERE; done++) {
                Basket basket = nextToIron();
                int used = basket == null ? 0 : ironNext(basket, left);
                if (used == 0) {
                    return done;
                }
                left -= used;
            }
            return MOST_PIECES_HERE;
        }

        /** The minutes that the next piece of a basket took; 0 if those that are left do not suffice. */
        int ironNext(Basket basket, int left) {
            int kind = basket.lowestIronable(stock > 0);
            if (kind == NONE) {
                return 0;
            }
            boolean stir = Basket.takesStarch(kind) && basket.starch != board.pot;
            int needed = basket.minutes(kind) + (stir ? settings[STIRRING] : 0);
            if (needed > left) {
                return 0;
            }
            if (stir) {
                board.pot = basket.starch;
                board.stirred++;
            }
            if (Basket.takesHanger(kind)) {
                stock--;
            }
            basket.ironed[kind]++;
            board.pieces++;
            board.minutes += needed;
            return needed;
        }

        /** How many baskets the van takes on the day that begins. */
        int nextDay() {
            day++;
            chargeHangers();
            return loadVan();
        }

        void chargeHangers() {
            int limit = day - settings[GRACE];
            if (!out.anyFromBefore(limit)) {
                return;
            }
            for (int i = 0; i < customers.number; i++) {
                int charged = out.takeFromBefore(limit, i);
                if (charged > 0) {
                    int coins = charged * settings[HANGER_PRICE];
                    customers.hangersPaid[i] += charged;
                    customers.owes[i] += coins;
                    journal.write(EVENT_PAID, day, i, coins);
                }
            }
        }

        int loadVan() {
            int before = shelf.number;
            int stay = 0;
            for (int i = 0; i < before; i++) {
                Basket basket = shelf.baskets[i];
                if (basket.isReady() && isVisited(customers.district[basket.customer], day)) {
                    handOver(basket);
                } else {
                    // The one that left changes places, as each basket of the shelf must stay in it once.
                    shelf.baskets[i] = shelf.baskets[stay];
                    shelf.baskets[stay] = basket;
                    stay++;
                }
            }
            shelf.number = stay;
            return before - stay;
        }

        void handOver(Basket basket) {
            int price = basket.price();
            customers.owes[basket.customer] += price;
            out.send(basket.customer, day, Basket.needingHangers(basket.ironed));
            journal.write(EVENT_TAKEN, day, basket.number, price);
        }
    }

    /** The latest states, each in the place after the one before, round and round. */
    private static final class History {
        final State[] kept = new State[MOST_STATES];
        int states;
        int latest;

        History() {
            for (int i = 0; i < MOST_STATES; i++) {
                kept[i] = new State();
            }
        }

        void push(State state) {
            latest = (latest + 1) % MOST_STATES;
            states = Math.min(states + 1, MOST_STATES);
            kept[latest].copyFrom(state);
        }

        /** Only while there are states. */
        void popInto(State state) {
            state.copyFrom(kept[latest]);
            latest = (latest + MOST_STATES - 1) % MOST_STATES;
            states--;
        }
    }

    /** The text, and the baskets that were read from it. */
    private static final class BasketText {
        static final int AT_CUSTOMER = 0;
        static final int AT_COLON = 1;
        static final int AT_FIRST_KIND = 2;
        static final int AT_PIECES = 3;
        static final int AFTER_PIECES = 4;
        static final int AT_STARCH = 5;
        static final int AFTER_STARCH = 6;
        static final int AT_HANGERS = 7;
        static final int AFTER_HANGERS = 8;
        static final int AT_SEMICOLON = 9;

        final char[] characters = new char[MOST_CHARACTERS];
        int length;
        int baskets;
        final int[] customer = new int[MOST_READ];
        final int[] pieces = new int[MOST_READ];
        final int[] starch = new int[MOST_READ];
        final int[] hangers = new int[MOST_READ];
        private int place;
        private int kind;

        /** Only while there is room. */
        void append(char character) {
            characters[length] = character;
            length++;
        }

        /** Reads all baskets; the fault of the text, NONE if it has none. */
        int read() {
            baskets = 0;
            place = AT_CUSTOMER;
            for (int i = 0; i < length; i++) {
                if (!take(characters[i])) {
                    return i;
                }
            }
            return mayEnd() ? NONE : length;
        }

        private boolean mayEnd() {
            return place == AFTER_PIECES || place == AFTER_STARCH || place == AFTER_HANGERS || place == AT_SEMICOLON;
        }

        private boolean take(char c) {
            switch (place) {
                case AT_CUSTOMER: return takeCustomer(c);
                case AT_COLON: return takeSign(c, ':', AT_FIRST_KIND);
                case AT_FIRST_KIND: return takeKind(c);
                case AT_PIECES: return takePieces(c);
                case AFTER_PIECES: return takeKind(c) || takeSign(c, '*', AT_STARCH) || takeEnding(c);
                case AT_STARCH: return takeStarch(c);
                case AFTER_STARCH: return takeEnding(c);
                case AT_HANGERS: return isDigit(c, 1, 9) && takeHangers(c, AFTER_HANGERS);
                case AFTER_HANGERS: return takeHangers(c, AT_SEMICOLON) || takeSign(c, ';', AT_CUSTOMER);
                default: return takeSign(c, ';', AT_CUSTOMER);
            }
        }

        private boolean takeCustomer(char c) {
            if (!isDigit(c, 0, 9) || baskets >= MOST_READ) {
                return false;
            }
            customer[baskets] = c - '0';
            pieces[baskets] = 0;
            starch[baskets] = 0;
            hangers[baskets] = 0;
            baskets++;
            kind = NONE;
            place = AT_COLON;
            return true;
        }

        private boolean takeKind(char c) {
            int next = kindOf(c);
            if (next == NONE || next <= kind) {
                return false;
            }
            kind = next;
            place = AT_PIECES;
            return true;
        }

        private boolean takePieces(char c) {
            if (!isDigit(c, 1, 9) || baskets < 1 || kind < 0) {
                return false;
            }
            pieces[baskets - 1] += (c - '0') * Basket.WEIGHTS[kind];
            place = AFTER_PIECES;
            return true;
        }

        private boolean takeStarch(char c) {
            if (!isDigit(c, 1, MOST_STARCH) || baskets < 1) {
                return false;
            }
            starch[baskets - 1] = c - '0';
            place = AFTER_STARCH;
            return true;
        }

        private boolean takeHangers(char c, int after) {
            if (!isDigit(c, 0, 9) || baskets < 1) {
                return false;
            }
            hangers[baskets - 1] = hangers[baskets - 1] * 10 + (c - '0');
            place = after;
            return true;
        }

        private boolean takeEnding(char c) {
            return takeSign(c, '-', AT_HANGERS) || takeSign(c, ';', AT_CUSTOMER);
        }

        private boolean takeSign(char c, char sign, int after) {
            if (c != sign) {
                return false;
            }
            place = after;
            return true;
        }

        private static boolean isDigit(char c, int least, int most) {
            return c >= '0' + least && c <= '0' + most;
        }

        private static int kindOf(char c) {
            return c == 's' ? 0 : c == 'b' ? 1 : c == 't' ? 2 : c == 'l' ? 3 : NONE;
        }
    }
}
