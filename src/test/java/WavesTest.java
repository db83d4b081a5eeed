/** Promises 12 to 17. */
public final class WavesTest {
    private static final int FAR = Integer.MAX_VALUE;
    private static final int LOW = Integer.MIN_VALUE;

    public static void main(String[] args) {
        setCapacity();
        setCapacityWithOrders();
        planWaveTakes();
        planWaveThrows();
        planWaveKeepsTheCapacity();
        planWaveNeedsASaving();
        planWaveTakesTheGreatestSaving();
        planWaveBreaksTies();
        pick();
        batches();
        batchOf();
        linesOf();
        Check.end("WavesTest");
    }

    /** One aisle, product p at position p + 1: two orders always save twice the nearer position. */
    private static Aislewright oneAisle() {
        Aislewright w = new Aislewright(1, 20, 1);
        for (int product = 0; product < 20; product++) {
            w.put(product, 0, product + 1);
        }
        return w;
    }

    private static void write(Aislewright w, int due, int... products) {
        int number = w.order(due);
        for (int product : products) {
            w.line(number, product, 1);
        }
    }

    private static String batchesOf(Aislewright w) {
        StringBuilder text = new StringBuilder();
        for (int number = 0; number < w.orders(); number++) {
            text.append(w.batchOf(number)).append(' ');
        }
        return text.toString().trim();
    }

    private static void setCapacity() {
        Aislewright w = oneAisle();
        Check.due("12: from 6 to 1", 6, () -> w.setCapacity(1));
        Check.due("12: from 1 to 9", 1, () -> w.setCapacity(9));
        Check.due("12: from 9 to 9", 9, () -> w.setCapacity(9));
        for (int lines : new int[] {0, -1, 10, LOW, FAR}) {
            Check.due("12: to " + lines, Check.ARGUMENT, () -> w.setCapacity(lines));
        }
        Check.due("12: then it is as before", 9, () -> w.setCapacity(5));
    }

    private static void setCapacityWithOrders() {
        Aislewright w = oneAisle();
        write(w, 1, 0, 1, 2);
        write(w, 9, 3, 4);
        Check.due("12: fewer than an open order has", Check.STATE, () -> w.setCapacity(2));
        Check.due("12: as many as it has", 6, () -> w.setCapacity(3));
        w.planWave(1);
        Check.due("12: in a wave", Check.STATE, () -> w.setCapacity(9));
        Check.due("12: the range comes first", Check.ARGUMENT, () -> w.setCapacity(10));
        w.pick(0);
        Check.due("12: what is done does not count", 3, () -> w.setCapacity(2));
        Check.due("12: what is open does", Check.STATE, () -> w.setCapacity(1));
        Check.due("12: still 2", 2, () -> w.setCapacity(2));
    }

    private static void planWaveTakes() {
        Aislewright w = oneAisle();
        w.setCapacity(1);
        write(w, 5, 3);
        write(w, 4, 2);
        write(w, 6, 1);
        write(w, 0);
        write(w, 0, 0);
        Check.due("13: those due at 5 or earlier that have lines", 3, () -> w.planWave(5));
        Check.same("13: by rising numbers", "0 1 -1 -1 2", batchesOf(w));
        w.pick(0);
        w.pick(0);
        w.pick(0);
        Check.due("13: what is done is not taken again", 1, () -> w.planWave(999));
        Check.same("13: only the open one", "-1 -1 0 -1 -1", batchesOf(w));
    }

    private static void planWaveThrows() {
        Aislewright w = oneAisle();
        for (int time : new int[] {-1, 1000, LOW, FAR}) {
            Check.due("13: time " + time, Check.ARGUMENT, () -> w.planWave(time));
        }
        Check.due("13: no orders", Check.STATE, () -> w.planWave(0));
        write(w, 3);
        Check.due("13: only one without lines", Check.STATE, () -> w.planWave(999));
        write(w, 3, 0);
        Check.due("13: only later ones", Check.STATE, () -> w.planWave(2));
        Check.due("13: nothing changed", 0, () -> w.stateOf(1));
        Check.due("13: due just then", 1, () -> w.planWave(3));
        write(w, 3, 1);
        Check.due("13: there is a wave", Check.STATE, () -> w.planWave(3));
        Check.due("13: the range comes first", Check.ARGUMENT, () -> w.planWave(1000));
        Check.due("13: the new one is open", 0, () -> w.stateOf(2));
        w.pick(0);
        Check.due("13: time 999", 1, () -> w.planWave(999));
        w.pick(0);
        Check.due("13: all are done", Check.STATE, () -> w.planWave(999));
    }

    private static void planWaveKeepsTheCapacity() {
        Aislewright w = oneAisle();
        write(w, 0, 1, 2, 3);
        write(w, 0, 1, 2, 3);
        write(w, 0, 1);
        // Two lines with the same product are two, so 3 and 3 fill the capacity of 6.
        Check.due("13: just the capacity", 2, () -> w.planWave(0));
        Check.same("13: three and three lines", "0 0 1", batchesOf(w));
        Check.due("13: six lines", 6, () -> w.linesOf(0));
        Check.due("13: three places", 3, () -> w.stops(0));
        Aislewright less = oneAisle();
        less.setCapacity(5);
        write(less, 0, 1, 2, 3);
        write(less, 0, 1, 2, 3);
        write(less, 0, 1);
        Check.due("13: one over the capacity", 2, () -> less.planWave(0));
        Check.same("13: three and one line", "0 1 0", batchesOf(less));
        Aislewright most = oneAisle();
        most.setCapacity(9);
        for (int product = 0; product < 18; product++) {
            write(most, 0, product);
        }
        Check.due("13: nine lines each", 2, () -> most.planWave(0));
        Check.due("13: nine places", 9, () -> most.stops(1));
    }

    private static void planWaveNeedsASaving() {
        Aislewright w = new Aislewright(1, 20, 1);
        w.put(0, 0, 1);
        write(w, 0, 0);
        write(w, 0, 0);
        Check.due("13: the same place saves", 1, () -> w.planWave(0));
        Aislewright apart = new Aislewright(3, 6, 2);
        apart.put(0, 0, 6);
        apart.put(1, 2, 1);
        write(apart, 0, 0);
        write(apart, 0, 1);
        // 12 and 10 alone, 22 together: a saving of 0.
        Check.due("13: a saving of 0 is none", 2, () -> apart.planWave(0));
    }

    private static void planWaveTakesTheGreatestSaving() {
        Aislewright w = oneAisle();
        w.setCapacity(2);
        write(w, 0, 0);
        write(w, 0, 9);
        write(w, 0, 4);
        write(w, 0, 19);
        // 1 and 3 save 20, then 0 and 2 save 2.
        Check.due("13: two batches", 2, () -> w.planWave(0));
        Check.same("13: the greatest saving first", "0 1 0 1", batchesOf(w));
        Check.due("13: the length of 0 and 2", 10, () -> w.lengthOf(0));
        Check.due("13: the length of 1 and 3", 40, () -> w.lengthOf(1));
        Aislewright moved = oneAisle();
        moved.setCapacity(2);
        write(moved, 0, 9);
        write(moved, 0, 0);
        write(moved, 0, 19);
        write(moved, 0, 4);
        write(moved, 0, 3);
        moved.planWave(0);
        Check.same("13: those behind move up", "0 1 0 2 2", batchesOf(moved));
    }

    private static void planWaveBreaksTies() {
        Aislewright w = oneAisle();
        w.setCapacity(2);
        for (int number = 0; number < 5; number++) {
            write(w, 0, 7);
        }
        w.planWave(0);
        Check.same("13: the first pair, then the next", "0 0 1 1 2", batchesOf(w));
        Aislewright second = oneAisle();
        second.setCapacity(2);
        write(second, 0, 4);
        write(second, 0, 0);
        write(second, 0, 9);
        write(second, 0, 19);
        write(second, 0, 4);
        // 2 and 3 save 20 first; then 0 and 4 save 10, more than either with 1.
        second.planWave(0);
        Check.same("13: the first batch takes the place", "0 1 2 2 0", batchesOf(second));
        Aislewright third = oneAisle();
        third.setCapacity(2);
        write(third, 0, 2);
        write(third, 0, 5);
        write(third, 0, 5);
        write(third, 0, 2);
        third.planWave(0);
        Check.same("13: 1 and 2 save more than 0 and 1", "0 1 1 0", batchesOf(third));
        Aislewright fourth = oneAisle();
        fourth.setCapacity(3);
        write(fourth, 0, 5, 6);
        write(fourth, 0, 5, 6);
        write(fourth, 0, 6);
        write(fourth, 0, 6);
        // The pairs 2 and 3, 0 and 2, 1 and 3 all save 14: 0 and 2 come first.
        fourth.planWave(0);
        Check.same("13: of equal savings the lowest first batch", "0 1 0 1", batchesOf(fourth));
    }

    private static void pick() {
        Aislewright w = oneAisle();
        w.setCapacity(2);
        write(w, 0, 0);
        write(w, 0, 9);
        write(w, 0, 4);
        write(w, 0, 19);
        write(w, 0, 2);
        Check.due("14: there is none yet", Check.BOUNDS, () -> w.pick(0));
        w.planWave(0);
        Check.same("14: the wave", "0 1 2 1 2", batchesOf(w));
        for (int number : new int[] {-1, 3, LOW, FAR}) {
            Check.due("14: batch " + number, Check.BOUNDS, () -> w.pick(number));
        }
        Check.due("14: the second one", 40, () -> w.pick(1));
        Check.same("14: those behind move up", "0 -1 1 -1 1", batchesOf(w));
        Check.due("14: its orders are done", 2, () -> w.stateOf(1));
        Check.due("14: its orders are done", 2, () -> w.stateOf(3));
        Check.due("14: others are not", 1, () -> w.stateOf(2));
        Check.due("14: the last one", 10, () -> w.pick(1));
        Check.due("14: it went", Check.BOUNDS, () -> w.pick(1));
        Check.due("14: the wave is not over", Check.STATE, () -> w.put(0, 0, 1));
        Check.due("14: the first one", 2, () -> w.pick(0));
        Check.due("14: the wave is over", 1, () -> w.put(0, 0, 1));
        Check.due("14: there is none any more", Check.BOUNDS, () -> w.pick(0));
        Check.due("14: a new wave has nothing to take", Check.STATE, () -> w.planWave(0));
    }

    private static void batches() {
        Aislewright w = oneAisle();
        Check.due("15: without a wave", 0, w::batches);
        w.setCapacity(1);
        write(w, 0, 0);
        write(w, 0, 1);
        Check.due("15: not planned yet", 0, w::batches);
        w.planWave(0);
        Check.due("15: two", 2, w::batches);
        w.pick(0);
        Check.due("15: one", 1, w::batches);
        w.pick(0);
        Check.due("15: over", 0, w::batches);
    }

    private static void batchOf() {
        Aislewright w = oneAisle();
        w.setCapacity(1);
        for (int number = 0; number < 40; number++) {
            write(w, number == 3 ? 9 : 0, number % 20);
        }
        Check.due("16: open", -1, () -> w.batchOf(0));
        w.planWave(0);
        Check.due("16: the first", 0, () -> w.batchOf(0));
        Check.due("16: not in the wave", -1, () -> w.batchOf(3));
        Check.due("16: behind it", 3, () -> w.batchOf(4));
        Check.due("16: order 32", 31, () -> w.batchOf(32));
        Check.due("16: the last", 38, () -> w.batchOf(39));
        w.pick(0);
        Check.due("16: done", -1, () -> w.batchOf(0));
        Check.due("16: moved up", 2, () -> w.batchOf(4));
        for (int number : new int[] {-1, 40, 64, LOW, FAR}) {
            Check.due("16: order " + number, Check.BOUNDS, () -> w.batchOf(number));
        }
    }

    private static void linesOf() {
        Aislewright w = oneAisle();
        Check.due("17: without a wave", Check.BOUNDS, () -> w.linesOf(0));
        write(w, 0, 0, 1, 2, 3, 4);
        write(w, 0, 0, 1, 2);
        write(w, 0, 2, 3);
        w.planWave(0);
        Check.same("17: the wave", "0 1 1", batchesOf(w));
        Check.due("17: five", 5, () -> w.linesOf(0));
        Check.due("17: the same product twice is two lines", 5, () -> w.linesOf(1));
        Check.due("17: which are four places", 4, () -> w.stops(1));
        for (int number : new int[] {-1, 2, LOW, FAR}) {
            Check.due("17: batch " + number, Check.BOUNDS, () -> w.linesOf(number));
        }
        w.pick(0);
        Check.due("17: moved up", 5, () -> w.linesOf(0));
        Check.due("17: gone", Check.BOUNDS, () -> w.linesOf(1));
    }
}
