/** Promises 18 to 25. */
public final class RoutesTest {
    private static final int FAR = Integer.MAX_VALUE;
    private static final int LOW = Integer.MIN_VALUE;

    public static void main(String[] args) {
        lengthOf();
        lengthByTrying();
        lengthThrough();
        severalBatches();
        stops();
        stopAt();
        inAisle();
        walked();
        share();
        Check.end("RoutesTest");
    }

    /** A warehouse with products at the places told, each place by its number. */
    private static Aislewright at(int aisles, int positions, int gap, int... places) {
        Aislewright w = new Aislewright(aisles, positions, gap);
        for (int product = 0; product < places.length; product++) {
            w.put(product, places[product] / 100, places[product] % 100);
        }
        return w;
    }

    /** The same, with all products in one batch: the capacity is 9, and each pair of orders saves. */
    private static Aislewright oneBatch(int aisles, int positions, int gap, int... places) {
        Aislewright w = at(aisles, positions, gap, places);
        w.setCapacity(9);
        int half = Math.min(5, places.length);
        w.order(0);
        for (int product = 0; product < half; product++) {
            w.line(0, product, 1);
        }
        if (half < places.length) {
            w.order(0);
            for (int product = half; product < places.length; product++) {
                w.line(1, product, 1);
            }
        }
        Check.due("one batch", 1, () -> w.planWave(0));
        return w;
    }

    private static void wrongBatches(String of, Aislewright w, java.util.function.IntUnaryOperator call) {
        for (int number : new int[] {-1, w.batches(), LOW, FAR}) {
            Check.due(of + ": batch " + number, Check.BOUNDS, () -> call.applyAsInt(number));
        }
    }

    private static void lengthOf() {
        Aislewright w = oneBatch(3, 10, 4, 5, 109, 202);
        Check.due("18: three aisles", 42, () -> w.lengthOf(0));
        wrongBatches("18", w, w::lengthOf);
        w.pick(0);
        Check.due("18: without a wave", Check.BOUNDS, () -> w.lengthOf(0));
        Aislewright one = oneBatch(1, 1, 1, 1);
        Check.due("18: the smallest", 2, () -> one.lengthOf(0));
        Aislewright nine = oneBatch(6, 20, 9, 20, 120, 220, 320, 420, 520, 519, 101, 1);
        Check.due("18: nine places", 142, () -> nine.lengthOf(0));
    }

    private static void lengthByTrying() {
        Aislewright w = oneBatch(3, 10, 4, 5, 109, 202);
        Check.due("19: three aisles", 42, () -> w.lengthByTrying(0));
        wrongBatches("19", w, w::lengthByTrying);
        Aislewright seven = oneBatch(6, 20, 9, 20, 120, 220, 320, 420, 520, 1);
        Check.due("19: seven places", 140, () -> seven.lengthByTrying(0));
        Aislewright eight = oneBatch(6, 20, 9, 20, 120, 220, 320, 420, 520, 1, 101);
        Check.due("19: eight places", Check.STATE, () -> eight.lengthByTrying(0));
        Check.due("19: bounds come first", Check.BOUNDS, () -> eight.lengthByTrying(1));
        Aislewright twice = at(1, 20, 1, 1, 2, 3, 4, 5);
        twice.setCapacity(9);
        for (int number = 0; number < 2; number++) {
            twice.order(0);
            for (int product = 0; product < 4 + number; product++) {
                twice.line(number, product, 1);
            }
        }
        twice.planWave(0);
        Check.due("19: nine lines", 9, () -> twice.linesOf(0));
        Check.due("19: of which five are places", 10, () -> twice.lengthByTrying(0));
    }

    private static void lengthThrough() {
        Aislewright one = oneBatch(4, 6, 2, 306, 301);
        Check.due("20: one aisle as far as the farthest place", 24, () -> one.lengthThrough(0));
        wrongBatches("20", one, one::lengthThrough);
        Aislewright single = oneBatch(4, 6, 2, 105);
        Check.due("20: one place", 14, () -> single.lengthThrough(0));
        Aislewright near = oneBatch(4, 6, 2, 302, 301);
        Check.due("20: one aisle, nearer", 16, () -> near.lengthThrough(0));
        Aislewright two = oneBatch(4, 6, 2, 1, 301);
        Check.due("20: two aisles are gone through", 26, () -> two.lengthThrough(0));
        Check.due("20: which is not the best route", 16, () -> two.lengthOf(0));
        Aislewright three = oneBatch(3, 10, 4, 5, 109, 202);
        Check.due("20: the third as far as needed", 42, () -> three.lengthThrough(0));
        Aislewright four = oneBatch(6, 10, 4, 5, 109, 302, 503);
        Check.due("20: four aisles", 84, () -> four.lengthThrough(0));
        Aislewright five = oneBatch(6, 10, 4, 5, 109, 302, 403, 502, 501, 507);
        Check.due("20: five aisles", 98, () -> five.lengthThrough(0));
        Aislewright six = oneBatch(6, 10, 4, 5, 109, 210, 302, 403, 502);
        Check.due("20: six aisles", 106, () -> six.lengthThrough(0));
        Aislewright skipped = oneBatch(6, 10, 4, 203, 402);
        Check.due("20: aisles without places are passed by", 54, () -> skipped.lengthThrough(0));
    }

    private static void severalBatches() {
        Aislewright w = at(4, 10, 2, 3, 105, 209, 310, 1);
        w.setCapacity(2);
        int[][] products = {{3, 2}, {0, 1}, {4}};
        for (int number = 0; number < products.length; number++) {
            w.order(0);
            for (int product : products[number]) {
                w.line(number, product, 1);
            }
        }
        Check.due("22: three batches", 3, () -> w.planWave(0));
        String[] routes = {"209 310", "3 105", "1"};
        int[] lengths = {34, 20, 2};
        int[] through = {34, 26, 2};
        for (int batch = 0; batch < routes.length; batch++) {
            int number = batch;
            Check.same("22: the route of batch " + batch, routes[batch], routeOf(w, batch));
            Check.due("18: the length of batch " + batch, lengths[batch], () -> w.lengthOf(number));
            Check.due("19: the same by trying", lengths[batch], () -> w.lengthByTrying(number));
            Check.due("21: its stops", routes[batch].split(" ").length, () -> w.stops(number));
        }
        for (int batch = 0; batch < routes.length; batch++) {
            int number = batch;
            Check.due("20: through aisles in batch " + batch, through[batch], () -> w.lengthThrough(number));
        }
    }

    private static void stops() {
        Aislewright w = oneBatch(6, 20, 9, 20, 120, 220, 320, 420, 520, 519, 101, 1);
        Check.due("21: nine", 9, () -> w.stops(0));
        wrongBatches("21", w, w::stops);
        Aislewright one = oneBatch(1, 1, 1, 1);
        Check.due("21: one", 1, () -> one.stops(0));
        one.pick(0);
        Check.due("21: none any more", Check.BOUNDS, () -> one.stops(0));
    }

    private static String routeOf(Aislewright w, int batch) {
        StringBuilder text = new StringBuilder();
        for (int stop = 0; stop < w.stops(batch); stop++) {
            text.append(w.stopAt(batch, stop)).append(' ');
        }
        return text.toString().trim();
    }

    private static void stopAt() {
        Aislewright w = oneBatch(3, 10, 4, 202, 109, 5);
        Check.same("22: of the two directions the lower place first", "5 109 202", routeOf(w, 0));
        wrongBatches("22", w, number -> w.stopAt(number, 0));
        for (int stop : new int[] {-1, 3, LOW, FAR}) {
            Check.due("22: stop " + stop, Check.BOUNDS, () -> w.stopAt(0, stop));
        }
        Aislewright aisle = oneBatch(1, 20, 1, 20, 3, 11, 7);
        Check.same("22: each place on the way there or back", "3 7 11 20", routeOf(aisle, 0));
        Aislewright across = oneBatch(2, 10, 1, 10, 110, 109);
        Check.same("22: across the back", "10 110 109", routeOf(across, 0));
        Aislewright mixed = oneBatch(2, 10, 1, 9, 102, 110, 1);
        Check.same("22: first where the orders differ", "1 9 110 102", routeOf(mixed, 0));
        Aislewright front = oneBatch(3, 10, 1, 1, 101, 201);
        Check.same("22: along the front", "1 101 201", routeOf(front, 0));
        Aislewright later = oneBatch(3, 10, 1, 201, 103);
        Check.same("22: the nearer aisle may be last, but ties take it first", "103 201", routeOf(later, 0));
    }

    private static void inAisle() {
        Aislewright w = at(4, 10, 4, 5, 105, 205, 210);
        for (int aisle = 0; aisle < 4; aisle++) {
            int a = aisle;
            Check.due("23: without a wave", 0, () -> w.inAisle(a));
        }
        w.setCapacity(2);
        int[][] products = {{0, 1}, {1, 2}, {2, 3}, {3}};
        for (int number = 0; number < products.length; number++) {
            w.order(number == 3 ? 1 : 0);
            for (int product : products[number]) {
                w.line(number, product, 1);
            }
        }
        Check.due("23: three batches", 3, () -> w.planWave(0));
        Check.due("23: aisle 0", 1, () -> w.inAisle(0));
        Check.due("23: aisle 1", 2, () -> w.inAisle(1));
        Check.due("23: aisle 2, two places count once", 2, () -> w.inAisle(2));
        Check.due("23: aisle 3", 0, () -> w.inAisle(3));
        for (int aisle : new int[] {-1, 4, LOW, FAR}) {
            Check.due("23: aisle " + aisle, Check.BOUNDS, () -> w.inAisle(aisle));
        }
        w.pick(1);
        Check.due("23: one was picked", 1, () -> w.inAisle(1));
        Check.due("23: one was picked", 1, () -> w.inAisle(2));
    }

    private static void walked() {
        Aislewright w = at(1, 20, 1, 1, 2, 20);
        w.setCapacity(1);
        for (int product = 0; product < 3; product++) {
            w.line(w.order(product / 2), product, 1);
        }
        Check.due("24: nothing", 0, w::walked);
        w.planWave(0);
        Check.due("24: planned is not walked", 0, w::walked);
        w.pick(1);
        Check.due("24: one", 4, w::walked);
        w.pick(0);
        Check.due("24: two", 6, w::walked);
        w.put(2, 0, 10);
        w.planWave(1);
        w.pick(0);
        Check.due("24: of all waves", 26, w::walked);
        w.put(2, 0, 20);
        Check.due("24: it stays though a product moves", 26, w::walked);
    }

    private static void share() {
        Aislewright w = at(1, 20, 1, 3, 5, 20);
        for (int product = 0; product < 3; product++) {
            w.line(w.order(product / 2), product, 1);
        }
        Check.dueDouble("25: none is done", 1.0, w::share);
        w.planWave(0);
        Check.dueDouble("25: none is done yet", 1.0, w::share);
        w.pick(0);
        Check.dueDouble("25: 10 instead of 16", 10.0 / 16.0, w::share);
        w.put(0, 0, 19);
        Check.dueDouble("25: as it was when they were picked", 10.0 / 16.0, w::share);
        w.put(2, 0, 7);
        w.planWave(1);
        Check.dueDouble("25: in the wave", 10.0 / 16.0, w::share);
        w.pick(0);
        Check.dueDouble("25: 24 instead of 30", 24.0 / 30.0, w::share);
        Aislewright third = at(1, 20, 1, 1);
        for (int number = 0; number < 3; number++) {
            third.line(third.order(0), 0, 1);
        }
        third.planWave(0);
        third.pick(0);
        Check.dueDouble("25: a third", 1.0 / 3.0, third::share);
    }
}
