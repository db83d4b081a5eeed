/** Promises 1 to 6. */
public final class ProductsTest {
    private static final int FAR = Integer.MAX_VALUE;
    private static final int LOW = Integer.MIN_VALUE;

    public static void main(String[] args) {
        aNewObject();
        boundsOfTheConstructor();
        put();
        putInAWave();
        layOut();
        layOutBreaksTies();
        layOutInAWave();
        placeOf();
        turnover();
        distance();
        Check.end("ProductsTest");
    }

    private static void aNewObject() {
        Aislewright w = new Aislewright(3, 10, 4);
        Check.due("1: NONE", -1, () -> Aislewright.NONE);
        for (int product = 0; product < 20; product++) {
            int p = product;
            Check.due("1: placeOf " + p, -1, () -> w.placeOf(p));
            Check.due("1: turnover " + p, 0, () -> w.turnover(p));
        }
        Check.due("1: orders", 0, w::orders);
        Check.due("1: batches", 0, w::batches);
        Check.due("1: walked", 0, w::walked);
        Check.dueDouble("1: share", 1.0, w::share);
        Check.due("1: layOut", 0, w::layOut);
        Check.due("1: the capacity is 6", 6, () -> w.setCapacity(9));
    }

    private static void boundsOfTheConstructor() {
        int[][] told = {
            {LOW, LOW, LOW, 1, 1, 1}, {0, 0, 0, 1, 1, 1}, {-1, -7, -3, 1, 1, 1}, {1, 1, 1, 1, 1, 1}, {2, 2, 2, 2, 2, 2},
            {5, 19, 8, 5, 19, 8}, {6, 20, 9, 6, 20, 9}, {7, 21, 10, 6, 20, 9}, {FAR, FAR, FAR, 6, 20, 9},
        };
        for (int[] row : told) {
            Aislewright w = new Aislewright(row[0], row[1], row[2]);
            String of = "1: of " + row[0] + ", " + row[1] + ", " + row[2];
            Check.due(of + " last place", -1, () -> w.put(0, row[3] - 1, row[4]));
            Check.due(of + " an aisle too far", Check.BOUNDS, () -> w.put(1, row[3], 1));
            Check.due(of + " a position too far", Check.BOUNDS, () -> w.put(1, 0, row[4] + 1));
            if (row[3] > 1) {
                w.put(1, 0, 1);
                w.put(0, 1, 1);
                Check.due(of + " gap", row[5] + 2, () -> w.distance(0, 1));
            }
        }
        Aislewright narrow = new Aislewright(2, 5, 0);
        narrow.put(0, 0, 1);
        narrow.put(1, 1, 1);
        Check.due("1: gap 0 counts as 1", 3, () -> narrow.distance(0, 1));
        Aislewright wide = new Aislewright(2, 5, 50);
        wide.put(0, 0, 1);
        wide.put(1, 1, 1);
        Check.due("1: gap 50 counts as 9", 11, () -> wide.distance(0, 1));
    }

    private static void put() {
        Aislewright w = new Aislewright(3, 10, 4);
        Check.due("2: first put", -1, () -> w.put(19, 2, 10));
        Check.due("2: the same place again", 210, () -> w.put(19, 2, 10));
        Check.due("2: another place", 210, () -> w.put(19, 0, 1));
        Check.due("2: it is there", 1, () -> w.placeOf(19));
        Check.due("2: the place left is free", -1, () -> w.put(0, 2, 10));
        Check.due("2: another product is there", Check.STATE, () -> w.put(0, 0, 1));
        Check.due("2: then nothing changed", 210, () -> w.placeOf(0));
        Check.due("2: product 0 is there", Check.STATE, () -> w.put(2, 2, 10));
        Check.due("2: not at the place of its own number", -1, () -> w.put(3, 0, 3));
        int[][] wrong = {
            {-1, 0, 2}, {20, 0, 2}, {LOW, 0, 2}, {FAR, 0, 2}, {1, -1, 2}, {1, 3, 2}, {1, LOW, 2}, {1, FAR, 2},
            {1, 0, 0}, {1, 0, 11}, {1, 0, -1}, {1, 0, LOW}, {1, 0, FAR}, {1, 0, 102}, {1, -1, 102}, {1, 42949673, 2},
        };
        for (int[] row : wrong) {
            Check.due("2: put " + row[0] + ", " + row[1] + ", " + row[2], Check.BOUNDS, () -> w.put(row[0], row[1], row[2]));
        }
        Check.due("2: the product counts before the place taken", Check.BOUNDS, () -> w.put(20, 0, 1));
        Check.due("2: after wrong calls it is at none", -1, () -> w.placeOf(1));
    }

    private static void putInAWave() {
        Aislewright w = withOneBatch();
        Check.due("2: in a wave", Check.STATE, () -> w.put(5, 1, 1));
        Check.due("2: in a wave, to the same place", Check.STATE, () -> w.put(0, 0, 1));
        Check.due("2: bounds come before the wave", Check.BOUNDS, () -> w.put(5, 9, 1));
        Check.due("2: nothing changed", -1, () -> w.placeOf(5));
        w.pick(0);
        Check.due("2: after the wave", -1, () -> w.put(5, 1, 1));
    }

    private static void layOut() {
        Aislewright w = new Aislewright(3, 10, 4);
        w.put(4, 0, 9);
        w.put(7, 1, 2);
        w.put(2, 2, 1);
        turnOver(w, 2, 5);
        turnOver(w, 4, 8);
        // From the start: 9 to place 9, 6 to place 102, 9 to place 201.
        Check.due("3: all three move", 3, w::layOut);
        Check.due("3: the greatest turnover at the least distance", 102, () -> w.placeOf(4));
        Check.due("3: then the next", 9, () -> w.placeOf(2));
        Check.due("3: none goes last", 201, () -> w.placeOf(7));
        Check.due("3: again moves none", 0, w::layOut);
        Check.due("3: a product at none stays so", -1, () -> w.placeOf(0));
        turnOver(w, 7, 7);
        Check.due("3: two change", 2, w::layOut);
        Check.due("3: 7 before 2", 9, () -> w.placeOf(7));
        Check.due("3: 2 behind 7", 201, () -> w.placeOf(2));
        Check.due("3: 4 stays", 102, () -> w.placeOf(4));
        Check.due("3: the turnover goes with the product", 8, () -> w.turnover(4));
    }

    private static void layOutBreaksTies() {
        Aislewright w = new Aislewright(6, 20, 2);
        int[] aisles = {3, 0, 2, 1};
        int[] positions = {1, 7, 3, 5};
        for (int i = 0; i < 4; i++) {
            w.put(10 + i, aisles[i], positions[i]);
        }
        // All four places are at 7 from the start.
        Check.due("3: equal distances and turnovers", 3, w::layOut);
        Check.due("3: the lowest product at the lowest place", 7, () -> w.placeOf(10));
        Check.due("3: the next", 105, () -> w.placeOf(11));
        Check.due("3: the next", 203, () -> w.placeOf(12));
        Check.due("3: the last", 301, () -> w.placeOf(13));
        turnOver(w, 13, 1);
        Check.due("3: all are pushed back by one", 4, w::layOut);
        Check.due("3: one turned over", 7, () -> w.placeOf(13));
        Check.due("3: the others behind", 105, () -> w.placeOf(10));
        Check.due("3: the others behind", 203, () -> w.placeOf(11));
        Check.due("3: the others behind", 301, () -> w.placeOf(12));
        Aislewright full = new Aislewright(1, 20, 1);
        for (int product = 0; product < 20; product++) {
            full.put(product, 0, 20 - product);
        }
        Check.due("3: twenty products", 20, full::layOut);
        Check.due("3: first", 1, () -> full.placeOf(0));
        Check.due("3: last", 20, () -> full.placeOf(19));
    }

    private static void layOutInAWave() {
        Aislewright w = withOneBatch();
        w.pick(0);
        Check.due("3: without a wave", 0, w::layOut);
        Aislewright inWave = withOneBatch();
        Check.due("3: in a wave", Check.STATE, inWave::layOut);
    }

    private static void placeOf() {
        Aislewright w = new Aislewright(6, 20, 9);
        w.put(0, 0, 1);
        w.put(19, 5, 20);
        Check.due("4: of 0", 1, () -> w.placeOf(0));
        Check.due("4: of 19", 520, () -> w.placeOf(19));
        Check.due("4: at none", -1, () -> w.placeOf(10));
        for (int product : new int[] {-1, 20, LOW, FAR}) {
            Check.due("4: of " + product, Check.BOUNDS, () -> w.placeOf(product));
        }
    }

    private static void turnover() {
        Aislewright w = new Aislewright(3, 10, 4);
        w.put(0, 0, 1);
        w.put(1, 2, 9);
        w.put(19, 1, 1);
        w.order(0);
        w.line(0, 0, 99);
        w.line(0, 19, 1);
        w.order(0);
        w.line(1, 0, 3);
        w.order(7);
        w.line(2, 0, 50);
        w.line(2, 1, 4);
        Check.due("5: open orders do not count", 0, () -> w.turnover(0));
        w.setCapacity(2);
        w.planWave(0);
        Check.due("5: nor those in the wave", 0, () -> w.turnover(0));
        w.pick(0);
        Check.due("5: one order done", 99, () -> w.turnover(0));
        w.pick(0);
        Check.due("5: two done", 102, () -> w.turnover(0));
        Check.due("5: of 19", 1, () -> w.turnover(19));
        Check.due("5: of 1 as yet", 0, () -> w.turnover(1));
        w.planWave(7);
        w.pick(0);
        Check.due("5: three done", 152, () -> w.turnover(0));
        Check.due("5: of 1", 4, () -> w.turnover(1));
        for (int product : new int[] {-1, 20, LOW, FAR}) {
            Check.due("5: of " + product, Check.BOUNDS, () -> w.turnover(product));
        }
    }

    private static void distance() {
        Aislewright w = new Aislewright(4, 10, 4);
        w.put(0, 0, 2);
        w.put(1, 0, 9);
        w.put(2, 1, 9);
        w.put(3, 3, 2);
        w.put(4, 1, 6);
        w.put(5, 2, 5);
        Check.due("6: in one aisle", 7, () -> w.distance(0, 1));
        Check.due("6: by the back", 8, () -> w.distance(1, 2));
        Check.due("6: the other way round", 8, () -> w.distance(2, 1));
        Check.due("6: by the front", 16, () -> w.distance(0, 3));
        Check.due("6: front and back alike", 15, () -> w.distance(4, 5));
        Check.due("6: 11 by the front, 11 by the back", 15, () -> w.distance(0, 2));
        Check.due("6: to itself", 0, () -> w.distance(3, 3));
        Check.due("6: one at none", Check.STATE, () -> w.distance(6, 0));
        Check.due("6: other at none", Check.STATE, () -> w.distance(0, 6));
        Check.due("6: at none to itself", Check.STATE, () -> w.distance(6, 6));
        for (int product : new int[] {-1, 20, LOW, FAR}) {
            Check.due("6: one " + product, Check.BOUNDS, () -> w.distance(product, 6));
            Check.due("6: other " + product, Check.BOUNDS, () -> w.distance(6, product));
        }
    }

    /** Writes an order with this product alone, and has it done. */
    private static void turnOver(Aislewright w, int product, int quantity) {
        w.line(w.order(0), product, quantity);
        w.planWave(0);
        w.pick(0);
    }

    private static Aislewright withOneBatch() {
        Aislewright w = new Aislewright(3, 10, 4);
        w.put(0, 0, 1);
        w.line(w.order(0), 0, 1);
        w.planWave(0);
        return w;
    }
}
