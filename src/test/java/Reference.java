import java.util.ArrayDeque;
import java.util.ArrayList;
import java.util.Comparator;
import java.util.Deque;
import java.util.List;
import java.util.regex.Matcher;
import java.util.regex.Pattern;

/**
 * The document's words once more, slowly and from single pieces and single hangers, so that the class
 * can be compared with something that shares none of its code.
 */
final class Reference {
    static final int UNKNOWN = -1;
    static final int BAD = -2;
    static final int FULL = -3;
    static final int NOT = -4;
    static final int NONE = -5;

    private static final Pattern TEXT = text();

    private World world = new World();
    private World snapshot = null;
    private final Deque<World> history = new ArrayDeque<>();
    private String text = "";

    private static Pattern text() {
        String basket = "[0-9]:(?=[sbtl])(?:s[1-9])?(?:b[1-9])?(?:t[1-9])?(?:l[1-9])?(?:\\*[1-3])?(?:-[1-9][0-9]?)?";
        return Pattern.compile(basket + "(?:;" + basket + ")*");
    }

    private static final class Piece {
        int kind;
        boolean ironed;
        boolean missed;
    }

    private static final class Basket {
        int number;
        int customer;
        int pin;
        int starch;
        int day;
        List<Piece> pieces = new ArrayList<>();

        int minutes(int kind) {
            return kind == 0 ? 5 + starch : kind == 1 ? 4 + starch : kind == 2 ? 6 : 8;
        }

        int degree(int kind) {
            return kind < 2 ? starch : 0;
        }

        int digits(java.util.function.Predicate<Piece> which) {
            int sum = 0;
            for (Piece p : pieces) {
                if (which.test(p)) {
                    sum += p.kind == 0 ? 1000 : p.kind == 1 ? 100 : p.kind == 2 ? 10 : 1;
                }
            }
            return sum;
        }

        boolean ready() {
            return pieces.stream().allMatch(p -> p.ironed && !p.missed);
        }

        int price() {
            return pieces.stream().mapToInt(p -> (int) Math.ceil(minutes(p.kind) / 2.0)).sum();
        }

        int openMinutes() {
            return pieces.stream().filter(p -> !p.ironed && !p.missed).mapToInt(p -> minutes(p.kind)).sum();
        }

        boolean misses(int kind, int degree) {
            return pieces.stream().anyMatch(p -> p.missed && p.kind == kind && degree(kind) == degree);
        }
    }

    private static final class World {
        int day;
        int[] settings = {0, 3, 14, 2};
        int[] visits = {127, 127, 127, 127, 127};
        List<int[]> customers = new ArrayList<>(); // district, owes, hangers paid
        List<Basket> here = new ArrayList<>();
        int came;
        int stock = 60;
        int bought;
        List<int[]> out = new ArrayList<>(); // a hanger: customer, day
        List<int[]> lost = new ArrayList<>(); // kind, degree
        List<int[]> book = new ArrayList<>(); // event, day, number, amount
        int pot;
        int stirs;
        int ironed;
        int minutes;
        int paid;

        World copy() {
            World w = new World();
            w.day = day;
            w.settings = settings.clone();
            w.visits = visits.clone();
            for (int[] c : customers) {
                w.customers.add(c.clone());
            }
            for (Basket b : here) {
                Basket n = new Basket();
                n.number = b.number;
                n.customer = b.customer;
                n.pin = b.pin;
                n.starch = b.starch;
                n.day = b.day;
                for (Piece p : b.pieces) {
                    Piece q = new Piece();
                    q.kind = p.kind;
                    q.ironed = p.ironed;
                    q.missed = p.missed;
                    n.pieces.add(q);
                }
                w.here.add(n);
            }
            w.came = came;
            w.stock = stock;
            w.bought = bought;
            w.out = new ArrayList<>(out);
            w.lost = new ArrayList<>(lost);
            w.book = new ArrayList<>(book);
            w.pot = pot;
            w.stirs = stirs;
            w.ironed = ironed;
            w.minutes = minutes;
            w.paid = paid;
            return w;
        }

        Basket basket(int number) {
            return here.stream().filter(b -> b.number == number).findFirst().orElse(null);
        }

        int nextVisit(int customer) {
            int set = visits[customers.get(customer)[0]];
            for (int d = day + 1; d < day + 8; d++) {
                if ((set >> d % 7 & 1) == 1) {
                    return d;
                }
            }
            return NONE;
        }

        List<Basket> order() {
            List<Basket> sorted = new ArrayList<>(here);
            Comparator<Basket> by = Comparator.comparing(b -> 0);
            if (settings[0] == 1) {
                by = Comparator.comparing(b -> nextVisit(b.customer) == NONE ? 1000000 : nextVisit(b.customer));
            } else if (settings[0] == 2) {
                by = Comparator.comparing(Basket::openMinutes);
            }
            sorted.sort(by.thenComparing(b -> b.number));
            return sorted;
        }

        int come(int customer, int pieces, int starch, int hangers) {
            if (customer < 0 || customer >= customers.size()) {
                return UNKNOWN;
            }
            if (pieces < 1 || pieces > 9999 || starch < 0 || starch > 3 || hangers < 0 || hangers > 99) {
                return BAD;
            }
            if (out.stream().filter(h -> h[0] == customer).count() < hangers) {
                return NOT;
            }
            if (here.size() == 8 || came == 99) {
                return FULL;
            }
            Basket b = new Basket();
            b.number = came++;
            b.customer = customer;
            b.starch = starch;
            b.day = day;
            while (here.stream().anyMatch(o -> o.pin == b.pin)) {
                b.pin++;
            }
            String digits = String.format("%04d", pieces);
            for (int kind = 0; kind < 4; kind++) {
                for (int i = 0; i < digits.charAt(kind) - '0'; i++) {
                    Piece p = new Piece();
                    p.kind = kind;
                    b.pieces.add(p);
                }
            }
            here.add(b);
            for (int i = 0; i < hangers; i++) {
                int[] oldest = out.stream().filter(h -> h[0] == customer)
                        .min(Comparator.comparing(h -> h[1])).get();
                out.remove(oldest);
                stock++;
            }
            book.add(new int[] {0, day, b.number, hangers});
            return b.number;
        }

        int iron(int budget) {
            int left = budget;
            int done = 0;
            while (true) {
                Basket first = null;
                Piece next = null;
                for (Basket b : order()) {
                    next = b.pieces.stream().filter(p -> !p.ironed && !p.missed && (p.kind == 3 || stock > 0))
                            .min(Comparator.comparing(p -> p.kind)).orElse(null);
                    if (next != null) {
                        first = b;
                        break;
                    }
                }
                if (next == null) {
                    return done;
                }
                boolean stir = next.kind < 2 && first.starch != pot;
                int need = first.minutes(next.kind) + (stir ? settings[1] : 0);
                if (need > left) {
                    return done;
                }
                left -= need;
                if (stir) {
                    pot = first.starch;
                    stirs++;
                }
                next.ironed = true;
                stock -= next.kind < 3 ? 1 : 0;
                ironed++;
                minutes += need;
                done++;
            }
        }

        int dayPasses() {
            day++;
            for (int c = 0; c < customers.size(); c++) {
                int n = 0;
                for (int i = out.size() - 1; i >= 0; i--) {
                    if (out.get(i)[0] == c && day - out.get(i)[1] > settings[2]) {
                        out.remove(i);
                        n++;
                    }
                }
                if (n > 0) {
                    customers.get(c)[1] += n * settings[3];
                    customers.get(c)[2] += n;
                    book.add(new int[] {2, day, c, n * settings[3]});
                }
            }
            int taken = 0;
            for (Basket b : new ArrayList<>(here)) {
                int[] c = customers.get(b.customer);
                if (b.ready() && (visits[c[0]] & 1 << day % 7) != 0) {
                    here.remove(b);
                    c[1] += b.price();
                    for (Piece p : b.pieces) {
                        if (p.kind != 3) {
                            out.add(new int[] {b.customer, day});
                        }
                    }
                    book.add(new int[] {1, day, b.number, b.price()});
                    taken++;
                }
            }
            return taken;
        }

        int readyCount() {
            return (int) here.stream().filter(Basket::ready).count();
        }

        int onPieces() {
            return here.stream().mapToInt(b -> (int) b.pieces.stream().filter(p -> p.ironed && p.kind < 3).count())
                    .sum();
        }

        long missing(int[] piece) {
            return here.stream().filter(b -> b.misses(piece[0], piece[1])).count();
        }
    }

    private void act(World before) {
        history.addLast(before);
        if (history.size() > 4) {
            history.removeFirst();
        }
    }

    private int acted(World before, int answer) {
        act(before);
        return answer;
    }

    int customer(int district) {
        if (district < 0 || district > 4) {
            return UNKNOWN;
        }
        if (world.customers.size() == 10) {
            return FULL;
        }
        act(world.copy());
        world.customers.add(new int[] {district, 0, 0});
        return world.customers.size() - 1;
    }

    int visit(int district, int days) {
        if (district < 0 || district > 4) {
            return UNKNOWN;
        }
        if (days < 0 || days > 127) {
            return BAD;
        }
        int previous = world.visits[district];
        if (previous == days) {
            return NONE;
        }
        act(world.copy());
        world.visits[district] = days;
        return previous;
    }

    int basket(int customer, int pieces, int starch, int hangers) {
        World before = world.copy();
        int answer = world.come(customer, pieces, starch, hangers);
        return answer < 0 ? answer : acted(before, answer);
    }

    int baskets() {
        if (fault() != NONE) {
            return -100 - fault();
        }
        World before = world.copy();
        String[] parts = text.split(";");
        for (String part : parts) {
            Matcher m = Pattern.compile("(\\d):([a-z0-9]+)(?:\\*(\\d))?(?:-(\\d+))?").matcher(part);
            if (!m.matches()) {
                throw new IllegalStateException(part);
            }
            int pieces = 0;
            for (int i = 0; i < m.group(2).length(); i += 2) {
                int weight = (int) Math.pow(10, 3 - "sbtl".indexOf(m.group(2).charAt(i)));
                pieces += weight * (m.group(2).charAt(i + 1) - '0');
            }
            int starch = m.group(3) == null ? 0 : Integer.parseInt(m.group(3));
            int hangers = m.group(4) == null ? 0 : Integer.parseInt(m.group(4));
            int answer = world.come(Integer.parseInt(m.group(1)), pieces, starch, hangers);
            if (answer < 0) {
                world = before;
                return answer;
            }
        }
        return acted(before, parts.length);
    }

    int lose(int basket, int kind) {
        Basket b = world.basket(basket);
        if (b == null || kind < 0 || kind > 3) {
            return UNKNOWN;
        }
        if (world.lost.size() == 20) {
            return FULL;
        }
        if (b.pieces.stream().noneMatch(p -> p.kind == kind && !p.ironed && !p.missed)) {
            return NONE;
        }
        act(world.copy());
        b.pieces.stream().filter(p -> p.kind == kind && !p.ironed && !p.missed).findFirst().get().missed = true;
        world.lost.add(new int[] {kind, b.degree(kind)});
        world.book.add(new int[] {3, world.day, basket, kind});
        return world.lost.size();
    }

    int find(int piece, int basket) {
        Basket b = world.basket(basket);
        if (piece < 0 || piece >= world.lost.size() || b == null) {
            return UNKNOWN;
        }
        int[] l = world.lost.get(piece);
        if (!b.misses(l[0], l[1])) {
            return NOT;
        }
        act(world.copy());
        b.pieces.stream().filter(p -> p.missed && p.kind == l[0]).findFirst().get().missed = false;
        world.lost.remove(piece);
        world.book.add(new int[] {4, world.day, basket, l[0]});
        return world.lost.size();
    }

    int iron(int minutes) {
        if (minutes < 1 || minutes > 600) {
            return BAD;
        }
        act(world.copy());
        return world.iron(minutes);
    }

    int pass(int days) {
        if (days < 1 || days > 99) {
            return BAD;
        }
        if (world.day + days > 9999) {
            return FULL;
        }
        act(world.copy());
        int taken = 0;
        for (int i = 0; i < days; i++) {
            taken += world.dayPasses();
        }
        return taken;
    }

    int buy(int hangers) {
        if (hangers < 1 || hangers > 99) {
            return BAD;
        }
        int paid = world.customers.stream().mapToInt(c -> c[2]).sum();
        if (60 + world.bought - paid + hangers > 999) {
            return FULL;
        }
        act(world.copy());
        world.stock += hangers;
        world.bought += hangers;
        return world.stock;
    }

    int pay(int customer) {
        if (customer < 0 || customer >= world.customers.size()) {
            return UNKNOWN;
        }
        int coins = world.customers.get(customer)[1];
        if (coins == 0) {
            return NONE;
        }
        act(world.copy());
        world.customers.get(customer)[1] = 0;
        world.paid += coins;
        return coins;
    }

    int set(int which, int value) {
        int[][] ranges = {{0, 2}, {0, 20}, {1, 60}, {0, 99}};
        if (which < 0 || which > 3 || value < ranges[which][0] || value > ranges[which][1]) {
            return BAD;
        }
        int previous = world.settings[which];
        if (previous == value) {
            return NONE;
        }
        act(world.copy());
        world.settings[which] = value;
        return previous;
    }

    int type(char c) {
        if (text.length() == 60) {
            return FULL;
        }
        text += c;
        return text.length();
    }

    int clearText() {
        int length = text.length();
        text = "";
        return length;
    }

    int fault() {
        if (TEXT.matcher(text).matches()) {
            return NONE;
        }
        for (int end = 1; end <= text.length(); end++) {
            Matcher m = TEXT.matcher(text.substring(0, end));
            if (!m.matches() && !m.hitEnd()) {
                return end - 1;
            }
        }
        return text.length();
    }

    int undo() {
        if (history.isEmpty()) {
            return NONE;
        }
        world = history.removeLast();
        return history.size();
    }

    int keep() {
        snapshot = world.copy();
        return world.day;
    }

    int restore() {
        if (snapshot == null) {
            return NONE;
        }
        act(world);
        world = snapshot.copy();
        return world.day;
    }

    int customerOf(int customer, int what) {
        if (customer < 0 || customer >= world.customers.size()) {
            return UNKNOWN;
        }
        int[] c = world.customers.get(customer);
        switch (what) {
            case 0: return c[0];
            case 1: return (int) world.out.stream().filter(h -> h[0] == customer).count();
            case 2: return c[1];
            case 3: return c[2];
            case 4: return (int) world.here.stream().filter(b -> b.customer == customer).count();
            case 5: return world.out.stream().filter(h -> h[0] == customer).mapToInt(h -> h[1]).min().orElse(NONE);
            case 6: return world.nextVisit(customer);
            default: return BAD;
        }
    }

    int basketOf(int basket, int what) {
        Basket b = world.basket(basket);
        if (b == null) {
            return UNKNOWN;
        }
        switch (what) {
            case 0: return b.customer;
            case 1: return b.pin;
            case 2: return b.starch;
            case 3: return b.digits(p -> true);
            case 4: return b.digits(p -> p.ironed);
            case 5: return b.digits(p -> p.missed);
            case 6: return b.ready() ? 1 : 0;
            case 7: return b.price();
            case 8: return b.openMinutes();
            case 9: return b.day;
            default: return BAD;
        }
    }

    int lost(int piece, int what) {
        if (piece < 0 || piece >= world.lost.size()) {
            return UNKNOWN;
        }
        int[] l = world.lost.get(piece);
        switch (what) {
            case 0: return l[0];
            case 1: return l[1];
            case 2: return (int) world.missing(l);
            case 3: return world.here.stream().filter(b -> b.misses(l[0], l[1])).mapToInt(b -> b.number).min()
                    .getAsInt();
            default: return BAD;
        }
    }

    int ordered(int rank) {
        if (rank < 0) {
            return BAD;
        }
        return rank < world.here.size() ? world.order().get(rank).number : NONE;
    }

    int book(int ago, int what) {
        if (ago < 0 || ago > 9 || what < 0 || what > 3) {
            return BAD;
        }
        return ago < world.book.size() ? world.book.get(world.book.size() - 1 - ago)[what] : NONE;
    }

    int count(int what) {
        if (what >= 19 && what <= 22) {
            return world.settings[what - 19];
        }
        switch (what) {
            case 0: return world.day;
            case 1: return world.customers.size();
            case 2: return world.here.size();
            case 3: return world.readyCount();
            case 4: return world.came;
            case 5: return world.stock;
            case 6: return world.onPieces();
            case 7: return world.out.size();
            case 8: return world.customers.stream().mapToInt(c -> c[2]).sum();
            case 9: return world.bought;
            case 10: return world.lost.size();
            case 11: return world.pot;
            case 12: return world.stirs;
            case 13: return world.ironed;
            case 14: return world.minutes;
            case 15: return world.customers.stream().mapToInt(c -> c[1]).sum();
            case 16: return world.paid;
            case 17: return history.size();
            case 18: return text.length();
            default: return BAD;
        }
    }

    float meanMinutes() {
        return world.ironed == 0 ? 0.0f : (float) world.minutes / (float) world.ironed;
    }

    int ifIroned(int order, int minutes, int what) {
        if (order < 0 || order > 2 || minutes < 1 || minutes > 600 || what < 0 || what > 2) {
            return BAD;
        }
        World w = world.copy();
        w.settings[0] = order;
        int pieces = w.iron(minutes);
        return what == 0 ? pieces : what == 1 ? w.readyCount() : w.stirs - world.stirs;
    }

    int bestOrder(int minutes) {
        if (minutes < 1 || minutes > 600) {
            return BAD;
        }
        int best = 0;
        for (int order = 1; order < 3; order++) {
            int ready = ifIroned(order, minutes, 1) - ifIroned(best, minutes, 1);
            int pieces = ifIroned(order, minutes, 0) - ifIroned(best, minutes, 0);
            if (ready > 0 || ready == 0 && pieces > 0) {
                best = order;
            }
        }
        return best;
    }

    int homeOn(int basket, int minutes) {
        if (world.basket(basket) == null) {
            return UNKNOWN;
        }
        if (minutes < 1 || minutes > 600) {
            return BAD;
        }
        World w = world.copy();
        while (w.day < world.day + 60) {
            w.iron(minutes);
            w.dayPasses();
            if (w.basket(basket) == null) {
                return w.day;
            }
        }
        return NONE;
    }

    int wanting() {
        int pieces = world.here.stream()
                .mapToInt(b -> (int) b.pieces.stream().filter(p -> !p.ironed && p.kind != 3).count()).sum();
        return pieces > world.stock ? pieces - world.stock : 0;
    }

    int sure() {
        return (int) world.lost.stream().filter(l -> world.missing(l) == 1).count();
    }
}
