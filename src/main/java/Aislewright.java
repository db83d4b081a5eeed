import java.util.ArrayList;

/**
 * A planner for picking in a warehouse: products lie in aisles, orders ask for products, waves of
 * orders are put together in batches by savings, pickers go the shortest routes, and products are
 * laid out anew by turnover.
 */
public final class Aislewright {
    /** There is none. */
    public static final int NONE = -1;

    private static final int MOST_AISLES = 6;
    private static final int MOST_POSITIONS = 20;
    private static final int WIDEST_GAP = 9;
    private static final int PRODUCTS = 20;
    private static final int MOST_ORDERS = 40;
    private static final int MOST_LINES = 5;
    private static final int MOST_QUANTITY = 99;
    private static final int LATEST = 999;
    private static final int FIRST_CAPACITY = 6;
    private static final int MOST_CAPACITY = 9;
    private static final int MOST_TRIED = 7;
    /** A place has the number of its aisle times this and its position, together. */
    private static final int AISLE_STEP = 100;
    /** The start is at position 0 of aisle 0, so it has the number of such a place. */
    private static final int START = 0;
    /** No route is that long: one by 9 places is made of 10 ways of at most 66 each. */
    private static final int TOO_LONG = 1000000;

    private static final int OPEN = 0;
    private static final int IN_WAVE = 1;
    private static final int DONE = 2;

    private final Warehouse warehouse;
    private final Router router;
    private final Wave wave;
    private final ArrayList<Order> book;
    private int capacity;
    private int walked;
    private int walkedAlone;

    /** A warehouse without products and orders; what is out of range counts as the nearest bound. */
    public Aislewright(int aisles, int positions, int gap) {
        warehouse = new Warehouse(
                within(aisles, MOST_AISLES), within(positions, MOST_POSITIONS), within(gap, WIDEST_GAP));
        router = new Router(warehouse);
        wave = new Wave(router);
        book = new ArrayList<Order>();
        capacity = FIRST_CAPACITY;
    }

    // ---- products

    /** Puts a product at a place; returns the place at which it was, or NONE. */
    public int put(int product, int aisle, int position)
            throws IndexOutOfBoundsException, IllegalStateException {
        checkProduct(product);
        if (!warehouse.hasAisle(aisle) || !warehouse.hasPosition(position)) {
            throw new IndexOutOfBoundsException("no such place");
        }
        int place = aisle * AISLE_STEP + position;
        int there = warehouse.productAt(place);
        if (wave.isOn() || (there != NONE && there != product)) {
            throw new IllegalStateException("another product is there, or there is a wave");
        }
        return warehouse.move(product, place);
    }

    /** Lays products out anew by turnover; returns how many are at another place then. */
    public int layOut() throws IllegalStateException {
        if (wave.isOn()) {
            throw new IllegalStateException("there is a wave");
        }
        return warehouse.rearrange();
    }

    /** Returns the place of a product, or NONE. */
    public int placeOf(int product) throws IndexOutOfBoundsException {
        checkProduct(product);
        return warehouse.places[product];
    }

    /** Returns the turnover of a product. */
    public int turnover(int product) throws IndexOutOfBoundsException {
        checkProduct(product);
        return warehouse.turnovers[product];
    }

    /** Returns the distance of the places of two products. */
    public int distance(int one, int other) throws IndexOutOfBoundsException, IllegalStateException {
        checkProduct(one);
        checkProduct(other);
        int from = warehouse.places[one];
        int to = warehouse.places[other];
        if (from == NONE || to == NONE) {
            throw new IllegalStateException("a product is at no place");
        }
        return warehouse.between(from, to);
    }

    // ---- orders

    /** Writes an order without lines; returns its number. */
    public int order(int due) throws IllegalArgumentException, IllegalStateException {
        checkTime(due);
        if (book.size() >= MOST_ORDERS) {
            throw new IllegalStateException("there are as many orders as there may be");
        }
        book.add(new Order(due));
        return book.size() - 1;
    }

    /** Writes a line of an order; returns how many lines it has then. */
    public int line(int order, int product, int quantity)
            throws IndexOutOfBoundsException, IllegalArgumentException, IllegalStateException {
        Order written = orderNumbered(order);
        checkProduct(product);
        if (quantity < 1 || quantity > MOST_QUANTITY) {
            throw new IllegalArgumentException("quantity is out of range");
        }
        if (!takesLine(written) || written.asksFor(product) || warehouse.places[product] == NONE) {
            throw new IllegalStateException("the order can't have this line");
        }
        written.addLine(product, quantity);
        return written.countLines();
    }

    /** Returns how many orders there are. */
    public int orders() {
        return book.size();
    }

    /** Tells how an order stands: 0 open, 1 in the wave, 2 done. */
    public int stateOf(int order) throws IndexOutOfBoundsException {
        return orderNumbered(order).state;
    }

    /** Returns the length of the best route by the places of an order alone. */
    public int lengthAlone(int order) throws IndexOutOfBoundsException {
        return router.leastLength(orderNumbered(order).products);
    }

    // ---- waves

    /** Sets the capacity; returns what it was. */
    public int setCapacity(int lines) throws IllegalArgumentException, IllegalStateException {
        if (lines < 1 || lines > MOST_CAPACITY) {
            throw new IllegalArgumentException("lines is out of range");
        }
        if (wave.isOn() || mostLinesToDo() > lines) {
            throw new IllegalStateException("an order has more lines, or there is a wave");
        }
        int before = capacity;
        capacity = lines;
        return before;
    }

    /** Plans a wave; returns how many batches it has. */
    public int planWave(int time) throws IllegalArgumentException, IllegalStateException {
        checkTime(time);
        if (wave.isOn() || !takesAnyOrder(time)) {
            throw new IllegalStateException("there is a wave, or it would take no order");
        }
        for (int number = 0; number < book.size(); number++) {
            Order taken = book.get(number);
            if (taken.isTakenAt(time)) {
                taken.state = IN_WAVE;
                wave.take(number, taken);
            }
        }
        wave.join(capacity);
        return wave.size();
    }

    /** Picks a batch; returns the length of its route. */
    public int pick(int batch) throws IndexOutOfBoundsException {
        Batch picked = batchNumbered(batch);
        for (int number = 0; number < book.size(); number++) {
            if (picked.holds(number)) {
                finish(book.get(number));
            }
        }
        walked += picked.length;
        wave.drop(batch);
        return picked.length;
    }

    /** Returns how many batches are to be picked. */
    public int batches() {
        return wave.size();
    }

    /** Returns the batch of an order, or NONE if it is not in the wave. */
    public int batchOf(int order) throws IndexOutOfBoundsException {
        orderNumbered(order);
        return wave.batchWith(order);
    }

    /** Returns how many lines a batch has. */
    public int linesOf(int batch) throws IndexOutOfBoundsException {
        return batchNumbered(batch).lines;
    }

    // ---- routes

    /** Returns the length of a batch. */
    public int lengthOf(int batch) throws IndexOutOfBoundsException {
        return batchNumbered(batch).length;
    }

    /** Returns the length of a batch by trying all orders of its places. */
    public int lengthByTrying(int batch) throws IndexOutOfBoundsException, IllegalStateException {
        Batch tried = batchNumbered(batch);
        if (tried.route.length > MOST_TRIED) {
            throw new IllegalStateException("too many places to try");
        }
        return router.leastByTrying(tried.products);
    }

    /** Returns the length of a route that goes through the aisles of a batch as a whole. */
    public int lengthThrough(int batch) throws IndexOutOfBoundsException {
        return router.throughAisles(batchNumbered(batch).products);
    }

    /** Returns how many places the best route of a batch comes by. */
    public int stops(int batch) throws IndexOutOfBoundsException {
        return batchNumbered(batch).route.length;
    }

    /** Returns a place of the best route of a batch. */
    public int stopAt(int batch, int stop) throws IndexOutOfBoundsException {
        int[] route = batchNumbered(batch).route;
        if (stop < 0 || stop >= route.length) {
            throw new IndexOutOfBoundsException("no such stop");
        }
        return route[stop];
    }

    /** Returns how many batches have places in an aisle. */
    public int inAisle(int aisle) throws IndexOutOfBoundsException {
        if (!warehouse.hasAisle(aisle)) {
            throw new IndexOutOfBoundsException("no such aisle");
        }
        return wave.countIn(aisle);
    }

    /** Returns the lengths of all routes that were picked, together. */
    public int walked() {
        return walked;
    }

    /** Returns what was walked, divided by what all orders that are done would have taken alone. */
    public double share() {
        return walkedAlone == 0 ? 1.0 : (double) walked / (double) walkedAlone;
    }

    // ---- what the calls have in common

    private static int within(int told, int most) {
        return Math.max(1, Math.min(told, most));
    }

    private static boolean isIn(int bits, int number) {
        return (bits >> number & 1) != 0;
    }

    private static void checkProduct(int product) {
        if (product < 0 || product >= PRODUCTS) {
            throw new IndexOutOfBoundsException("no such product");
        }
    }

    private static void checkTime(int time) {
        if (time < 0 || time > LATEST) {
            throw new IllegalArgumentException("the time is out of range");
        }
    }

    private Order orderNumbered(int number) {
        if (number < 0 || number >= book.size()) {
            throw new IndexOutOfBoundsException("no such order");
        }
        return book.get(number);
    }

    private Batch batchNumbered(int number) {
        if (number < 0 || number >= wave.size()) {
            throw new IndexOutOfBoundsException("no such batch");
        }
        return wave.batches.get(number);
    }

    private boolean takesLine(Order order) {
        int lines = order.countLines();
        return order.state == OPEN && lines < MOST_LINES && lines < capacity;
    }

    private int mostLinesToDo() {
        int most = 0;
        for (int number = 0; number < book.size(); number++) {
            Order order = book.get(number);
            if (order.state != DONE) {
                most = Math.max(most, order.countLines());
            }
        }
        return most;
    }

    private boolean takesAnyOrder(int time) {
        for (int number = 0; number < book.size(); number++) {
            if (book.get(number).isTakenAt(time)) {
                return true;
            }
        }
        return false;
    }

    private void finish(Order order) {
        // Later its products may lie elsewhere, so what it would have taken alone is summed up now.
        walkedAlone += router.leastLength(order.products);
        warehouse.addTurnover(order);
        order.state = DONE;
    }

    /** Where the products are, and how much of them was picked. */
    private static final class Warehouse {
        private final int aisles;
        private final int positions;
        private final int gap;
        private final int[] places = new int[PRODUCTS];
        private final int[] turnovers = new int[PRODUCTS];
        private final int[] nearestPlaces = new int[PRODUCTS];
        private final int[] busiestProducts = new int[PRODUCTS];

        Warehouse(int aisles, int positions, int gap) {
            this.aisles = aisles;
            this.positions = positions;
            this.gap = gap;
            for (int product = 0; product < PRODUCTS; product++) {
                places[product] = NONE;
            }
        }

        boolean hasAisle(int aisle) {
            return aisle >= 0 && aisle < aisles;
        }

        boolean hasPosition(int position) {
            return position >= 1 && position <= positions;
        }

        /** How far it is through an aisle from one way across to the other one. */
        int depth() {
            return positions + 1;
        }

        int productAt(int place) {
            for (int product = 0; product < PRODUCTS; product++) {
                if (places[product] == place) {
                    return product;
                }
            }
            return NONE;
        }

        int move(int product, int place) {
            int before = places[product];
            places[product] = place;
            return before;
        }

        int between(int place, int other) {
            int position = place % AISLE_STEP;
            int otherPosition = other % AISLE_STEP;
            int aside = Math.abs(place / AISLE_STEP - other / AISLE_STEP);
            if (aside == 0) {
                return Math.abs(position - otherPosition);
            }
            int byFront = position + otherPosition;
            int byBack = 2 * depth() - byFront;
            return aside * gap + Math.min(byFront, byBack);
        }

        void addTurnover(Order order) {
            for (int product = 0; product < PRODUCTS; product++) {
                turnovers[product] += order.quantities[product];
            }
        }

        int rearrange() {
            int count = 0;
            for (int product = 0; product < PRODUCTS; product++) {
                if (places[product] != NONE) {
                    insertPlace(places[product], count);
                    insertProduct(product, count);
                    count++;
                }
            }
            int moved = 0;
            for (int rank = 0; rank < count; rank++) {
                if (move(busiestProducts[rank], nearestPlaces[rank]) != nearestPlaces[rank]) {
                    moved++;
                }
            }
            return moved;
        }

        private void insertPlace(int place, int count) {
            int at = count;
            while (at > 0 && isNearer(place, nearestPlaces[at - 1])) {
                nearestPlaces[at] = nearestPlaces[at - 1];
                at--;
            }
            nearestPlaces[at] = place;
        }

        private boolean isNearer(int place, int other) {
            int far = between(START, place);
            int otherFar = between(START, other);
            return far < otherFar || (far == otherFar && place < other);
        }

        private void insertProduct(int product, int count) {
            int at = count;
            // Products come by rising numbers, so one with the same turnover stays behind.
            while (at > 0 && turnovers[product] > turnovers[busiestProducts[at - 1]]) {
                busiestProducts[at] = busiestProducts[at - 1];
                at--;
            }
            busiestProducts[at] = product;
        }
    }

    /** What an order asks for. */
    private static final class Order {
        private final int due;
        private final int[] quantities = new int[PRODUCTS];
        /** A bit for each product of its lines. */
        private int products;
        private int state = OPEN;

        Order(int due) {
            this.due = due;
        }

        boolean asksFor(int product) {
            return isIn(products, product);
        }

        int countLines() {
            return Integer.bitCount(products);
        }

        void addLine(int product, int quantity) {
            products |= 1 << product;
            quantities[product] = quantity;
        }

        boolean isTakenAt(int time) {
            return state == OPEN && products != 0 && due <= time;
        }
    }

    /** Orders that are picked on one route. */
    private static final class Batch {
        /** Its row and column in the table of savings. */
        private final int row;
        /** A bit for each order. */
        private long orderBits;
        /** A bit for each product; as no two are at the same place, a bit for each place too. */
        private int products;
        private int lines;
        private int length;
        private int[] route = new int[0];

        Batch(int row, int number, Order order, int length) {
            this.row = row;
            this.orderBits = 1L << number;
            this.products = order.products;
            this.lines = order.countLines();
            this.length = length;
        }

        boolean holds(int order) {
            return (orderBits >> order & 1L) != 0;
        }

        boolean comesInto(int aisle) {
            for (int stop = 0; stop < route.length; stop++) {
                if (route[stop] / AISLE_STEP == aisle) {
                    return true;
                }
            }
            return false;
        }

        void absorb(Batch other, int saving) {
            orderBits |= other.orderBits;
            products |= other.products;
            lines += other.lines;
            length += other.length - saving;
        }
    }

    /** The batches that are to be picked; without any there is no wave. */
    private static final class Wave {
        private final Router router;
        private final ArrayList<Batch> batches = new ArrayList<Batch>();
        private final int[][] savings = new int[MOST_ORDERS][MOST_ORDERS];

        Wave(Router router) {
            this.router = router;
        }

        boolean isOn() {
            return !batches.isEmpty();
        }

        int size() {
            return batches.size();
        }

        void take(int number, Order order) {
            batches.add(new Batch(batches.size(), number, order, router.leastLength(order.products)));
        }

        /** Puts batches together as long as that saves, and notes the routes of those that stay. */
        void join(int capacity) {
            for (int first = 0; first < batches.size(); first++) {
                for (int second = first + 1; second < batches.size(); second++) {
                    noteSaving(first, second, capacity);
                }
            }
            for (int joined = 0; joined < MOST_ORDERS; joined++) {
                int changed = joinBestPair();
                if (changed == NONE) {
                    break;
                }
                for (int number = 0; number < batches.size(); number++) {
                    noteSaving(changed, number, capacity);
                }
            }
            for (int number = 0; number < batches.size(); number++) {
                Batch batch = batches.get(number);
                batch.route = router.bestRoute(batch.products);
            }
        }

        /** Notes it for the pair in both orders; 0 where the two may not be put together. */
        private void noteSaving(int number, int otherNumber, int capacity) {
            Batch one = batches.get(number);
            Batch other = batches.get(otherNumber);
            int saving = 0;
            if (number != otherNumber && one.lines + other.lines <= capacity) {
                saving = one.length + other.length - router.leastLength(one.products | other.products);
            }
            savings[one.row][other.row] = saving;
            savings[other.row][one.row] = saving;
        }

        private int savingOf(int first, int second) {
            return savings[batches.get(first).row][batches.get(second).row];
        }

        /** Returns the number of the new batch; NONE if no pair saves anything. */
        private int joinBestPair() {
            int greatest = 0;
            int bestFirst = NONE;
            int bestSecond = NONE;
            for (int first = 0; first < batches.size(); first++) {
                for (int second = first + 1; second < batches.size(); second++) {
                    int saving = savingOf(first, second);
                    if (saving > greatest) {
                        greatest = saving;
                        bestFirst = first;
                        bestSecond = second;
                    }
                }
            }
            if (greatest > 0) {
                batches.get(bestFirst).absorb(batches.get(bestSecond), greatest);
                batches.remove(bestSecond);
            }
            return bestFirst;
        }

        void drop(int number) {
            if (number >= 0 && number < batches.size()) {
                batches.remove(number);
            }
        }

        int batchWith(int order) {
            for (int number = 0; number < batches.size(); number++) {
                if (batches.get(number).holds(order)) {
                    return number;
                }
            }
            return NONE;
        }

        int countIn(int aisle) {
            int count = 0;
            for (int number = 0; number < batches.size(); number++) {
                if (batches.get(number).comesInto(aisle)) {
                    count++;
                }
            }
            return count;
        }
    }

    /**
     * Finds routes by the places of a few products. Its rows are used again by every call, so a call
     * gathers the places first.
     */
    private static final class Router {
        /** The start as a point of the table of ways, behind all places. */
        private static final int HOME = MOST_CAPACITY;

        private final Warehouse warehouse;
        private final int[] places = new int[MOST_CAPACITY];
        private int count;
        private final int[][] ways = new int[MOST_CAPACITY + 1][MOST_CAPACITY + 1];
        /** For each set of places and each place outside it: the least way from there by them home. */
        private final int[] onward = new int[(1 << MOST_CAPACITY) * MOST_CAPACITY];

        Router(Warehouse warehouse) {
            this.warehouse = warehouse;
        }

        int leastLength(int products) {
            gather(products);
            fillOnward();
            return leastOnward(HOME, everyPlace());
        }

        int[] bestRoute(int products) {
            gather(products);
            fillOnward();
            int[] route = new int[count];
            int at = HOME;
            int left = everyPlace();
            for (int stop = 0; stop < count; stop++) {
                at = bestNext(at, left);
                left ^= 1 << at;
                route[stop] = places[at];
            }
            return route;
        }

        int leastByTrying(int products) {
            gather(products);
            return tryFrom(ways, HOME, everyPlace(), 0, TOO_LONG, 0);
        }

        int throughAisles(int products) {
            gather(products);
            if (count == 0) {
                return 0;
            }
            int last = places[count - 1];
            int gone = countAisles() - 1;
            // Each aisle gone through changes the side, so after an even number it is the front.
            int inLast = gone % 2 == 0 ? 2 * (last % AISLE_STEP) : warehouse.depth();
            int along = 2 * warehouse.gap * (last / AISLE_STEP);
            return along + gone * warehouse.depth() + inLast;
        }

        private int everyPlace() {
            return (1 << count) - 1;
        }

        private int countAisles() {
            int aisles = 0;
            int before = NONE;
            for (int at = 0; at < count; at++) {
                int aisle = places[at] / AISLE_STEP;
                if (aisle != before) {
                    aisles++;
                }
                before = aisle;
            }
            return aisles;
        }

        private void gather(int products) {
            count = 0;
            for (int product = 0; product < PRODUCTS && count < MOST_CAPACITY; product++) {
                if (isIn(products, product)) {
                    insertPlace(warehouse.places[product]);
                }
            }
            for (int one = 0; one < count; one++) {
                int home = warehouse.between(START, places[one]);
                ways[one][HOME] = home;
                ways[HOME][one] = home;
                for (int other = 0; other < count; other++) {
                    ways[one][other] = warehouse.between(places[one], places[other]);
                }
            }
        }

        /** Keeps the places by rising numbers: the first of several best ones is the one to take. */
        private void insertPlace(int place) {
            int at = count;
            while (at > 0 && places[at - 1] > place) {
                places[at] = places[at - 1];
                at--;
            }
            places[at] = place;
            count++;
        }

        private void fillOnward() {
            int sets = 1 << count;
            for (int left = 0; left < sets; left++) {
                for (int from = 0; from < count; from++) {
                    if (!isIn(left, from)) {
                        onward[left * MOST_CAPACITY + from] = leastOnward(from, left);
                    }
                }
            }
        }

        private int leastOnward(int from, int left) {
            if (left == 0) {
                return ways[from][HOME];
            }
            int least = TOO_LONG;
            for (int next = 0; next < count; next++) {
                if (isIn(left, next)) {
                    least = Math.min(least, lengthBy(from, next, left));
                }
            }
            return least;
        }

        private int lengthBy(int from, int next, int left) {
            int then = left ^ 1 << next;
            return ways[from][next] + onward[then * MOST_CAPACITY + next];
        }

        private int bestNext(int from, int left) {
            int least = TOO_LONG;
            int best = 0;
            for (int next = 0; next < count; next++) {
                if (isIn(left, next) && lengthBy(from, next, left) < least) {
                    least = lengthBy(from, next, left);
                    best = next;
                }
            }
            return best;
        }

        /** The least length of all routes that begin as told; the least so far where none is less. */
        private static int tryFrom(int[][] ways, int from, int left, int gone, int leastSoFar, int depth) {
            if (left == 0) {
                return Math.min(leastSoFar, gone + ways[from][HOME]);
            }
            if (depth >= MOST_TRIED) {
                return leastSoFar;
            }
            int least = leastSoFar;
            for (int next = 0; next < MOST_CAPACITY; next++) {
                int length = gone + ways[from][next];
                // What is too long already gets no shorter, so orders that begin so are passed over.
                if (isIn(left, next) && length < least) {
                    least = tryFrom(ways, next, left ^ 1 << next, length, least, depth + 1);
                }
            }
            return least;
        }
    }
}
