/** Promises 7 to 11. */
public final class OrdersTest {
    private static final int FAR = Integer.MAX_VALUE;
    private static final int LOW = Integer.MIN_VALUE;

    public static void main(String[] args) {
        order();
        line();
        linesThatAreNotTaken();
        lineOfWhatIsNotOpen();
        lineWithSeveralWrongs();
        orders();
        stateOf();
        lengthAlone();
        Check.end("OrdersTest");
    }

    private static Aislewright stocked() {
        Aislewright w = new Aislewright(4, 10, 3);
        for (int product = 0; product < 12; product++) {
            w.put(product, product % 4, 1 + product / 4 * 4);
        }
        return w;
    }

    private static void order() {
        Aislewright w = new Aislewright(1, 1, 1);
        for (int due : new int[] {-1, 1000, LOW, FAR}) {
            Check.due("7: due " + due, Check.ARGUMENT, () -> w.order(due));
        }
        Check.due("7: due 0", 0, () -> w.order(0));
        Check.due("7: due 999", 1, () -> w.order(999));
        for (int number = 2; number < 40; number++) {
            Check.due("7: order " + number, number, () -> w.order(5));
        }
        Check.due("7: the 41st", Check.STATE, () -> w.order(5));
        Check.due("7: the range comes first", Check.ARGUMENT, () -> w.order(1000));
        Check.due("7: there are 40", 40, w::orders);
        Check.due("7: without lines", 0, () -> w.lengthAlone(39));
        w.put(0, 0, 1);
        Check.due("7: the last one takes lines", 1, () -> w.line(39, 0, 1));
        w.planWave(5);
        w.pick(0);
        Check.due("7: done ones count too", Check.STATE, () -> w.order(5));
    }

    private static void line() {
        Aislewright w = stocked();
        w.order(0);
        w.order(0);
        for (int product = 0; product < 5; product++) {
            int p = product;
            Check.due("8: line " + p, p + 1, () -> w.line(0, p, 99));
        }
        Check.due("8: a sixth line", Check.STATE, () -> w.line(0, 5, 1));
        Check.due("8: another order", 1, () -> w.line(1, 0, 1));
        Check.due("8: the same product again", Check.STATE, () -> w.line(1, 0, 2));
        Check.due("8: a product at none", Check.STATE, () -> w.line(1, 19, 2));
        Check.due("8: then it has one line as before", 2, () -> w.line(1, 11, 1));
        for (int number : new int[] {-1, 2, LOW, FAR}) {
            Check.due("8: order " + number, Check.BOUNDS, () -> w.line(number, 3, 1));
        }
        for (int product : new int[] {-1, 20, 32, LOW, FAR}) {
            Check.due("8: product " + product, Check.BOUNDS, () -> w.line(1, product, 1));
        }
        for (int quantity : new int[] {0, -1, 100, LOW, FAR}) {
            Check.due("8: quantity " + quantity, Check.ARGUMENT, () -> w.line(1, 3, quantity));
        }
        Check.due("8: none of these wrote a line", 3, () -> w.line(1, 3, 1));
    }

    private static void linesThatAreNotTaken() {
        Aislewright w = stocked();
        w.order(0);
        w.setCapacity(2);
        w.line(0, 0, 1);
        Check.due("8: as many as the capacity tells", 2, () -> w.line(0, 1, 1));
        Check.due("8: more than the capacity tells", Check.STATE, () -> w.line(0, 2, 1));
        w.setCapacity(3);
        Check.due("8: a greater capacity", 3, () -> w.line(0, 2, 1));
        Check.due("8: again more", Check.STATE, () -> w.line(0, 3, 1));
        w.setCapacity(9);
        w.line(0, 3, 1);
        Check.due("8: the fifth", 5, () -> w.line(0, 4, 1));
        Check.due("8: no sixth though the capacity is 9", Check.STATE, () -> w.line(0, 5, 1));
    }

    private static void lineOfWhatIsNotOpen() {
        Aislewright w = stocked();
        w.order(0);
        w.line(0, 0, 1);
        w.order(1);
        w.planWave(0);
        Check.due("8: in the wave", Check.STATE, () -> w.line(0, 1, 1));
        Check.due("8: an open one while there is a wave", 1, () -> w.line(1, 1, 1));
        w.pick(0);
        Check.due("8: done", Check.STATE, () -> w.line(0, 1, 1));
        Check.due("8: the done one is as it was", 2, () -> w.lengthAlone(0));
    }

    private static void lineWithSeveralWrongs() {
        Aislewright w = stocked();
        w.order(0);
        Check.due("8: bounds before the range", Check.BOUNDS, () -> w.line(1, 0, 0));
        Check.due("8: bounds before the range", Check.BOUNDS, () -> w.line(0, 20, 0));
        Check.due("8: the range before the state", Check.ARGUMENT, () -> w.line(0, 19, 0));
        Check.due("8: bounds before the state", Check.BOUNDS, () -> w.line(-1, 19, 1));
    }

    private static void orders() {
        Aislewright w = stocked();
        Check.due("9: none", 0, w::orders);
        w.order(1);
        Check.due("9: one", 1, w::orders);
        Check.answer(() -> w.order(-1));
        Check.due("9: a call that throws writes none", 1, w::orders);
        w.line(0, 0, 1);
        w.planWave(1);
        Check.due("9: in the wave", 1, w::orders);
        w.pick(0);
        Check.due("9: done", 1, w::orders);
        w.order(1);
        Check.due("9: two", 2, w::orders);
    }

    private static void stateOf() {
        Aislewright w = stocked();
        w.order(3);
        w.order(3);
        w.order(4);
        w.line(0, 0, 1);
        w.line(2, 0, 1);
        Check.due("10: open", 0, () -> w.stateOf(0));
        w.planWave(3);
        Check.due("10: in the wave", 1, () -> w.stateOf(0));
        Check.due("10: without lines it stays open", 0, () -> w.stateOf(1));
        Check.due("10: due later it stays open", 0, () -> w.stateOf(2));
        w.pick(0);
        Check.due("10: done", 2, () -> w.stateOf(0));
        Check.due("10: still open", 0, () -> w.stateOf(2));
        for (int number : new int[] {-1, 3, LOW, FAR}) {
            Check.due("10: order " + number, Check.BOUNDS, () -> w.stateOf(number));
        }
    }

    private static void lengthAlone() {
        Aislewright w = new Aislewright(3, 10, 4);
        w.put(0, 0, 5);
        w.put(1, 1, 9);
        w.put(2, 2, 2);
        w.order(5);
        Check.due("11: without lines", 0, () -> w.lengthAlone(0));
        w.line(0, 0, 99);
        Check.due("11: one place", 10, () -> w.lengthAlone(0));
        w.line(0, 1, 1);
        Check.due("11: two places", 30, () -> w.lengthAlone(0));
        w.line(0, 2, 1);
        Check.due("11: three places", 42, () -> w.lengthAlone(0));
        w.put(2, 2, 10);
        Check.due("11: a product was put elsewhere", 40, () -> w.lengthAlone(0));
        w.put(0, 0, 1);
        w.put(1, 0, 2);
        w.put(2, 0, 3);
        Check.due("11: all in one aisle", 6, () -> w.lengthAlone(0));
        w.planWave(5);
        Check.due("11: in the wave", 6, () -> w.lengthAlone(0));
        w.pick(0);
        w.put(2, 0, 8);
        Check.due("11: done, as the places are now", 16, () -> w.lengthAlone(0));
        for (int number : new int[] {-1, 1, LOW, FAR}) {
            Check.due("11: order " + number, Check.BOUNDS, () -> w.lengthAlone(number));
        }
    }
}
