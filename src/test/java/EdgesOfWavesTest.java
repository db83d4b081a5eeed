/** As EdgesTest, of the promises on waves and routes. */
public final class EdgesOfWavesTest {
    public static void main(String[] args) {
        setCapacity();
        planWaveTakes();
        planWavePutsTogether();
        planWaveTakesTheFirstOfEqualPairs();
        pick();
        batches();
        batchOf();
        linesOf();
        lengthOf();
        lengthByTrying();
        eachOfSeveral();
        lengthThrough();
        stops();
        stopAt();
        inAisle();
        walked();
        share();
        Check.end("EdgesOfWavesTest");
    }

    /** One aisle of 20 positions, product p at position p + 1: a route is twice as long as its farthest place. */
    private static Driver fullAisle() {
        Driver w = new Driver(1, 20, 1);
        for (int product = 0; product < 20; product++) {
            w.run("full aisle", "put " + product + " 0 " + (product + 1));
        }
        return w;
    }

    /** Orders that are due at 0, each told by its products. */
    private static Driver written(Driver w, String... orders) {
        for (String products : orders) {
            String number = w.answer("orders");
            w.run("orders", "order 0");
            for (String product : products.split(" ")) {
                w.run("orders", "line " + number + " " + product + " 1");
            }
        }
        return w;
    }

    /** Products 0, 1, .. at these places. */
    private static Driver placed(int aisles, int positions, int gap, int... places) {
        Driver w = new Driver(aisles, positions, gap).run("places", "setCapacity 9");
        for (int product = 0; product < places.length; product++) {
            w.run("places", "put " + product + " " + places[product] / 100 + " " + places[product] % 100);
        }
        return w;
    }

    /** The batches of the orders, one behind the other. */
    private static void together(String what, String due, Driver w) {
        StringBuilder text = new StringBuilder();
        int orders = Integer.parseInt(w.answer("orders"));
        for (int number = 0; number < orders; number++) {
            text.append(number > 0 ? " " : "").append(w.answer("batchOf " + number));
        }
        Check.same(what, due, text.toString());
    }

    private static void refusedBatches(String of, Driver w, int batches, String call) {
        for (String number : new String[] {"-1", "" + batches, "MIN", "MAX"}) {
            w.run(of + ": no such batch", call.replace("?", number) + " = BOUNDS");
        }
    }

    private static void setCapacity() {
        fullAisle().run("12: lines 1 to 9", "setCapacity 0 = ARGUMENT", "setCapacity 10 = ARGUMENT", "setCapacity -1 = ARGUMENT",
                "setCapacity MIN = ARGUMENT", "setCapacity MAX = ARGUMENT", "setCapacity 1 = 6", "setCapacity 9 = 1",
                "setCapacity 9 = 9", "setCapacity 0 = ARGUMENT", "setCapacity 10 = ARGUMENT", "setCapacity 6 = 9");
        for (int lines = 1; lines <= 5; lines++) {
            Driver w = written(fullAisle(), "0 1 2 3 4".substring(0, 2 * lines - 1));
            String what = "12: an order that is not done has more lines: " + lines;
            if (lines > 1) {
                w.run(what, "setCapacity " + (lines - 1) + " = STATE");
            }
            w.run(what, "setCapacity " + lines + " = 6", "planWave 0", "setCapacity 9 = STATE", "pick 0", "setCapacity 1 = " + lines);
        }
        fullAisle().run("12: an order without lines has none more", "order 0", "setCapacity 1 = 6");
        written(fullAisle(), "0", "1 2", "3").run("12: one of several", "setCapacity 1 = STATE", "setCapacity 2 = 6");
        written(fullAisle().run("12", "setCapacity 1"), "0", "1").run("12: there is a wave until its last batch is picked",
                "planWave 0 = 2", "setCapacity 2 = STATE", "pick 0", "setCapacity 2 = STATE", "pick 0", "setCapacity 2 = 1");
    }

    private static void planWaveTakes() {
        written(fullAisle(), "0").run("13: time 0 to 999", "planWave -1 = ARGUMENT", "planWave 1000 = ARGUMENT",
                "planWave MIN = ARGUMENT", "planWave MAX = ARGUMENT", "batches = 0", "stateOf 0 = 0", "planWave 0 = 1", "pick 0",
                "order 0", "line 1 0 1", "planWave 999 = 1");
        fullAisle().run("13: due at that time or earlier", "setCapacity 1", "order 4", "line 0 0 1", "order 5", "line 1 1 1",
                "order 6", "line 2 2 1", "planWave 3 = STATE", "planWave 5 = 2", "stateOf 0 = 1", "stateOf 1 = 1", "stateOf 2 = 0");
        fullAisle().run("13: that have lines", "order 0", "planWave 0 = STATE", "order 0", "line 1 0 1", "planWave 0 = 1",
                "stateOf 0 = 0", "stateOf 1 = 1", "batchOf 1 = 0");
        written(fullAisle(), "0").run("13: there is a wave", "planWave 0 = 1", "order 0", "line 1 1 1", "planWave 0 = STATE",
                "stateOf 1 = 0", "batches = 1", "pick 0", "planWave 0 = 1", "batchOf 1 = 0", "stateOf 0 = 2");
        fullAisle().run("13: it would take no order", "planWave 999 = STATE", "order 0", "planWave 999 = STATE", "line 0 0 1",
                "planWave 999 = 1", "pick 0", "planWave 999 = STATE");
        Driver w = fullAisle().run("13", "setCapacity 1");
        for (int number = 0; number < 40; number++) {
            written(w, "" + number % 20);
        }
        w.run("13: each as a batch of its own, by rising numbers", "planWave 0 = 40", "batches = 40", "batchOf 0 = 0",
                "batchOf 20 = 20", "batchOf 39 = 39", "lengthOf 0 = 2", "lengthOf 19 = 40", "lengthOf 39 = 40", "stopAt 38 0 = 19",
                "pick 39 = 40", "pick 0 = 2", "batchOf 38 = 37", "batches = 38");
    }

    private static void planWavePutsTogether() {
        Driver fit = written(fullAisle().run("13", "setCapacity 4"), "0 1", "0 1");
        fit.run("13: lines together not more than the capacity", "planWave 0 = 1", "linesOf 0 = 4");
        Driver over = written(fullAisle().run("13", "setCapacity 3"), "0 1", "0 1");
        over.run("13: one line more than the capacity", "planWave 0 = 2", "linesOf 0 = 2");
        // The first two would save 38, but have four lines together.
        Driver passed = written(fullAisle().run("13", "setCapacity 3"), "18 19", "18 19", "0");
        passed.run("13: the greatest saving of those that fit", "planWave 0 = 2");
        together("13: the greatest saving of those that fit", "0 1 0", passed);
        Driver none = written(placed(3, 6, 2, 6, 201), "0", "1");
        none.run("13: a saving of 0 is not above 0", "planWave 0 = 2", "lengthOf 0 = 12", "lengthOf 1 = 10");
        Driver two = written(placed(3, 6, 2, 1, 201), "0", "1");
        two.run("13: no saving in another aisle of the same front", "planWave 0 = 2");
        Driver least = written(fullAisle(), "0", "19");
        least.run("13: the least saving there is", "planWave 0 = 1", "lengthOf 0 = 40");
        Driver nine = fullAisle().run("13", "setCapacity 9");
        for (int product = 0; product < 10; product++) {
            written(nine, "" + product);
        }
        // 8 and 9 save 18, then 7 saves 16, and so on, until 0 is one too many.
        nine.run("13: as long as there are two that fit", "planWave 0 = 2", "linesOf 0 = 1", "linesOf 1 = 9");
        together("13: the new batch takes the place of the first one", "0 1 1 1 1 1 1 1 1 1", nine);
        Driver again = written(fullAisle().run("13", "setCapacity 3"), "9", "4", "9", "4", "4");
        // 0 and 2 save 20; then 1 to 0 and 2 saves 10, as 1 and 3 do, but comes first.
        again.run("13: the new one's savings are its own", "planWave 0 = 2");
        together("13: the new one's savings are its own", "0 0 0 1 1", again);
        Driver all = fullAisle().run("13", "setCapacity 9");
        for (int number = 0; number < 40; number++) {
            written(all, "3");
        }
        all.run("13: forty orders by nines", "planWave 0 = 5", "linesOf 0 = 9", "linesOf 3 = 9", "linesOf 4 = 4", "stops 0 = 1",
                "lengthOf 4 = 8", "batchOf 8 = 0", "batchOf 9 = 1", "batchOf 36 = 4");
    }

    private static void planWaveTakesTheFirstOfEqualPairs() {
        Driver three = written(fullAisle().run("13", "setCapacity 2"), "5", "5", "5");
        three.run("13: of several the second batch that comes first", "planWave 0 = 2");
        together("13: of several the second batch that comes first", "0 0 1", three);
        // 0 and 2 save as much as 1 and 2; 0 and 1 have too many lines.
        Driver first = written(fullAisle().run("13", "setCapacity 3"), "7 8", "7 8", "8");
        first.run("13: of several the first batch that comes first", "planWave 0 = 2");
        together("13: of several the first batch that comes first", "0 1 0", first);
        // 0 and 3, 1 and 2, 1 and 3, 2 and 3 all save 2. After 0 and 3, 1 saves as much with them as with 2.
        Driver lower = written(placed(2, 4, 1, 102, 1, 4).run("13", "setCapacity 3"), "0", "1", "1", "2");
        lower.run("13: the first batch counts before the second", "planWave 0 = 2", "lengthOf 0 = 12", "lengthOf 1 = 2");
        together("13: the first batch counts before the second", "0 0 1 0", lower);
        Driver later = written(fullAisle().run("13", "setCapacity 2"), "4", "5", "5", "4");
        later.run("13: the greatest saving though it comes later", "planWave 0 = 2");
        together("13: the greatest saving though it comes later", "0 1 1 0", later);
        Driver up = written(fullAisle().run("13", "setCapacity 2"), "0", "9", "0", "9", "0");
        up.run("13: those behind it move up", "planWave 0 = 3", "linesOf 0 = 2", "linesOf 1 = 2", "linesOf 2 = 1");
        together("13: those behind it move up", "0 1 0 1 2", up);
    }

    private static Driver threeBatches() {
        return written(fullAisle().run("three batches", "setCapacity 1"), "0", "1", "2").run("three batches", "planWave 0 = 3");
    }

    private static void pick() {
        refusedBatches("14", fullAisle(), 0, "pick ?");
        Driver w = threeBatches();
        refusedBatches("14", w, 3, "pick ?");
        w.run("14: the last one", "pick 2 = 6", "pick 2 = BOUNDS", "stateOf 2 = 2", "stateOf 0 = 1", "batchOf 2 = -1",
                "batchOf 1 = 1");
        w.run("14: the first one", "pick 0 = 2", "pick 1 = BOUNDS", "stateOf 0 = 2", "stateOf 1 = 1", "batchOf 1 = 0");
        w.run("14: the wave is over when its last batch is picked", "layOut = STATE", "pick 0 = 4", "layOut = 0",
                "pick 0 = BOUNDS", "batches = 0");
        threeBatches().run("14: those behind move up", "pick 1 = 4", "batchOf 0 = 0", "batchOf 2 = 1", "lengthOf 1 = 6",
                "lengthOf 2 = BOUNDS");
        Driver all = written(fullAisle(), "0", "19", "3").run("14: all orders of a batch are done", "planWave 0 = 1",
                "pick 0 = 40", "stateOf 0 = 2", "stateOf 1 = 2", "stateOf 2 = 2");
        together("14: none is in a batch", "-1 -1 -1", all);
    }

    private static void batches() {
        fullAisle().run("15: 0 if there is no wave", "batches = 0", "order 0", "line 0 0 1", "batches = 0", "planWave 0 = 1",
                "batches = 1", "pick 0", "batches = 0");
        threeBatches().run("15: to be picked", "batches = 3", "pick 1", "batches = 2", "pick 9 = BOUNDS", "batches = 2", "pick 0",
                "batches = 1", "pick 0", "batches = 0");
    }

    private static void batchOf() {
        fullAisle().run("16: no such order", "batchOf 0 = BOUNDS", "order 0", "batchOf 0 = -1", "batchOf 1 = BOUNDS",
                "batchOf -1 = BOUNDS", "batchOf MIN = BOUNDS", "batchOf MAX = BOUNDS");
        fullAisle().run("16: NONE if the order is not in the wave", "order 0", "order 0", "line 1 0 1", "order 1", "line 2 0 1",
                "batchOf 1 = -1", "planWave 0", "batchOf 0 = -1", "batchOf 1 = 0", "batchOf 2 = -1", "pick 0", "batchOf 1 = -1");
        Driver w = new Driver(1, 1, 1).run("16", "put 0 0 1");
        for (int number = 0; number < 40; number++) {
            w.run("16", "order " + number % 2, "line " + number + " 0 1");
        }
        w.run("16: the last of 40 orders", "planWave 0 = 4", "batchOf 38 = 3", "batchOf 39 = -1", "batchOf 40 = BOUNDS",
                "batchOf 64 = BOUNDS", "batchOf 6 = 0", "batchOf 7 = -1");
    }

    private static void linesOf() {
        refusedBatches("17", fullAisle(), 0, "linesOf ?");
        Driver w = threeBatches();
        refusedBatches("17", w, 3, "linesOf ?");
        w.run("17: one line each", "linesOf 0 = 1", "linesOf 2 = 1");
        written(fullAisle().run("17", "setCapacity 9"), "0 1 2 3 4", "1 2 3 4").run("17: two with the same product are two",
                "planWave 0 = 1", "linesOf 0 = 9", "stops 0 = 5");
    }

    private static void lengthOf() {
        refusedBatches("18", fullAisle(), 0, "lengthOf ?");
        Driver w = threeBatches();
        refusedBatches("18", w, 3, "lengthOf ?");
        w.run("18: of each batch", "lengthOf 0 = 2", "lengthOf 1 = 4", "lengthOf 2 = 6");
        written(fullAisle(), "4", "4").run("18: its places, each once", "planWave 0 = 1", "lengthOf 0 = 10", "stops 0 = 1");
        written(placed(2, 8, 9, 8, 108), "0 1").run("18: round by the back", "planWave 0 = 1", "lengthOf 0 = 36");
        written(placed(2, 8, 9, 1, 101), "0 1").run("18: back by the front", "planWave 0 = 1", "lengthOf 0 = 22");
        written(placed(2, 8, 9, 4, 104), "0 1").run("18: just nearer by the front", "planWave 0 = 1", "lengthOf 0 = 34");
        written(placed(2, 8, 9, 5, 105), "0 1").run("18: just nearer by the back", "planWave 0 = 1", "lengthOf 0 = 36");
    }

    private static void lengthByTrying() {
        refusedBatches("19", fullAisle(), 0, "lengthByTrying ?");
        Driver seven = written(fullAisle().run("19", "setCapacity 9"), "0 2 4 6 8", "10 12").run("19: 7 places",
                "planWave 0 = 1", "stops 0 = 7", "lengthByTrying 0 = 26", "lengthOf 0 = 26");
        refusedBatches("19", seven, 1, "lengthByTrying ?");
        Driver eight = written(fullAisle().run("19", "setCapacity 9"), "0 2 4 6 8", "10 12 13").run("19: more than 7 places",
                "planWave 0 = 1", "stops 0 = 8", "lengthByTrying 0 = STATE", "lengthOf 0 = 28");
        refusedBatches("19", eight, 1, "lengthByTrying ?");
        written(fullAisle().run("19", "setCapacity 9"), "0 2 4 6 8", "0 2 4 10").run("19: 9 lines, but 6 places",
                "planWave 0 = 1", "linesOf 0 = 9", "stops 0 = 6", "lengthByTrying 0 = 22");
        written(fullAisle().run("19", "setCapacity 9"), "0 2 4 6 8", "0 2 10 12").run("19: 9 lines, but 7 places",
                "planWave 0 = 1", "linesOf 0 = 9", "stops 0 = 7", "lengthByTrying 0 = 26");
        // Along the front, through the last aisle, back along the back: 132, and 2 into each of four aisles.
        written(placed(6, 20, 9, 20, 101, 220, 301, 420, 501, 520), "0 1 2 3 4", "5 6").run("19: the same in six aisles",
                "planWave 0 = 1", "lengthOf 0 = 140", "lengthByTrying 0 = 140");
        new Driver(1, 1, 1).run("19: one place", "put 0 0 1", "order 0", "line 0 0 1", "planWave 0", "lengthByTrying 0 = 2");
    }

    /** What is asked of one batch tells nothing of another one, in whatever order they are asked. */
    private static void eachOfSeveral() {
        Driver w = written(placed(4, 10, 2, 3, 105, 209, 310, 1).run("18", "setCapacity 2"), "3 2", "0 1", "4");
        w.run("18 to 22: three batches", "planWave 0 = 3");
        for (int round = 0; round < 2; round++) {
            w.run("18 to 22: the first", "lengthByTrying 0 = 34", "lengthThrough 0 = 34", "stopAt 0 1 = 310", "stops 0 = 2",
                    "lengthOf 0 = 34");
            w.run("18 to 22: the last", "lengthThrough 2 = 2", "stopAt 2 0 = 1", "lengthByTrying 2 = 2", "lengthOf 2 = 2",
                    "stops 2 = 1");
            w.run("18 to 22: the second", "stopAt 1 0 = 3", "stopAt 1 1 = 105", "stopAt 1 2 = BOUNDS", "lengthByTrying 1 = 20",
                    "lengthThrough 1 = 26", "lengthOf 1 = 20");
        }
    }

    private static void lengthThrough() {
        refusedBatches("20", fullAisle(), 0, "lengthThrough ?");
        Driver w = threeBatches();
        refusedBatches("20", w, 3, "lengthThrough ?");
        w.run("20: one aisle from the front, and back", "lengthThrough 0 = 2", "lengthThrough 2 = 6");
        through("20: the first aisle is the last one", 26, "0 1", 501, 508);
        through("20: one through, the last one from the back", 10 + 9 + 9, "0 1", 1, 501);
        through("20: two through, the last one from the front", 10 + 9 + 9 + 2, "0 1 2", 1, 401, 501);
        through("20: as far as its farthest place", 10 + 9 + 9 + 16, "0 1 2 3", 1, 401, 501, 508);
        through("20: four through", 10 + 4 * 9, "0 1 2 3", 8, 108, 408, 508);
        through("20: five aisles", 8 + 4 * 9 + 6, "0 1 2 3 4", 8, 108, 208, 308, 403);
        through("20: from the first aisle with places", 6 + 9 + 9, "0 1", 204, 304);
    }

    /** In six aisles of 8 positions, gap 1. */
    private static void through(String what, int due, String order, int... places) {
        written(placed(6, 8, 1, places), order).run(what, "planWave 0 = 1", "lengthThrough 0 = " + due);
    }

    private static void stops() {
        refusedBatches("21", fullAisle(), 0, "stops ?");
        Driver w = threeBatches();
        refusedBatches("21", w, 3, "stops ?");
        w.run("21: one", "stops 0 = 1", "stops 2 = 1");
        written(fullAisle().run("21", "setCapacity 9"), "0 1 2 3 4", "5 6 7 8").run("21: nine", "planWave 0 = 1", "stops 0 = 9");
        written(fullAisle().run("21", "setCapacity 9"), "0 1 2 3 4", "4 3 2 1").run("21: each place once", "planWave 0 = 1",
                "stops 0 = 5");
    }

    private static void stopAt() {
        refusedBatches("22", fullAisle(), 0, "stopAt ? 0");
        Driver w = threeBatches();
        refusedBatches("22", w, 3, "stopAt ? 0");
        w.run("22: no such stop", "stopAt 0 0 = 1", "stopAt 0 1 = BOUNDS", "stopAt 0 -1 = BOUNDS", "stopAt 2 0 = 3",
                "stopAt 2 1 = BOUNDS", "stopAt 0 MIN = BOUNDS", "stopAt 0 MAX = BOUNDS", "stopAt 3 1 = BOUNDS");
        written(fullAisle().run("22", "setCapacity 9"), "8 6 4 2 0", "1 3 5 7").run("22: the first and the last of nine",
                "planWave 0 = 1", "stopAt 0 0 = 1", "stopAt 0 1 = 2", "stopAt 0 7 = 8", "stopAt 0 8 = 9", "stopAt 0 9 = BOUNDS",
                "stopAt 0 -1 = BOUNDS");
        written(placed(2, 4, 1, 104, 4), "0 1").run("22: of the same length the lower number first", "planWave 0 = 1",
                "stopAt 0 0 = 4", "stopAt 0 1 = 104");
        // Each place is come by on the way there or on the way back.
        written(placed(1, 4, 1, 4, 1, 3), "0 1 2").run("22: where their orders first differ", "planWave 0 = 1", "stopAt 0 0 = 1",
                "stopAt 0 1 = 3", "stopAt 0 2 = 4");
        // Through both aisles, either way round; by 4, 101, 104 it is more.
        written(placed(2, 4, 1, 104, 101, 4), "0 1 2").run("22: the least length before the lower number", "planWave 0 = 1",
                "stopAt 0 0 = 4", "stopAt 0 1 = 104", "stopAt 0 2 = 101", "lengthOf 0 = 12");
    }

    private static void inAisle() {
        Driver w = written(placed(6, 8, 1, 1, 501, 508, 301).run("23", "setCapacity 2"), "0", "1 2", "0 3");
        w.run("23: without a wave", "inAisle 0 = 0", "inAisle 5 = 0");
        w.run("23: no such aisle", "inAisle -1 = BOUNDS", "inAisle 6 = BOUNDS", "inAisle MIN = BOUNDS", "inAisle MAX = BOUNDS");
        w.run("23: how many batches have places in it", "planWave 0 = 3", "inAisle 0 = 2", "inAisle 1 = 0", "inAisle 2 = 0",
                "inAisle 3 = 1", "inAisle 4 = 0", "inAisle 5 = 1", "inAisle -1 = BOUNDS", "inAisle 6 = BOUNDS");
        w.run("23: as they are picked", "pick 2", "inAisle 0 = 1", "inAisle 3 = 0", "pick 0", "inAisle 0 = 0", "inAisle 5 = 1",
                "pick 0", "inAisle 5 = 0");
        Driver forty = fullAisle().run("23", "setCapacity 1");
        for (int number = 0; number < 40; number++) {
            written(forty, "" + number % 20);
        }
        forty.run("23: forty batches", "planWave 0 = 40", "inAisle 0 = 40", "inAisle 1 = BOUNDS");
    }

    private static void walked() {
        threeBatches().run("24: all routes that were picked", "walked = 0", "pick 2 = 6", "walked = 6", "pick 2 = BOUNDS",
                "walked = 6", "pick 0 = 2", "walked = 8", "pick 0 = 4", "walked = 12", "put 0 0 1", "walked = 12");
        written(fullAisle(), "9", "9", "0").run("24: a route for several orders once", "planWave 0 = 1", "walked = 0",
                "pick 0 = 20", "walked = 20");
    }

    private static void share() {
        threeBatches().run("25: 1.0 if none is done", "share = 1.0", "pick 5 = BOUNDS", "share = 1.0", "pick 0", "share = 1.0",
                "pick 0", "pick 0", "share = 1.0");
        written(fullAisle(), "9", "9", "0").run("25: divided by the lengths alone", "planWave 0 = 1", "share = 1.0", "pick 0 = 20",
                "share = " + 20.0 / 42.0);
        written(new Driver(1, 20, 1).run("25", "put 0 0 1"), "0", "0", "0").run("25: as a double", "planWave 0 = 1", "pick 0 = 2",
                "share = " + 1.0 / 3.0);
        // 20 for 20 and 20, then with product 9 at place 1 and product 0 at 10: 2 for 2 and 2.
        Driver moved = written(new Driver(1, 20, 1).run("25", "put 9 0 10"), "9", "9").run("25", "planWave 0 = 1", "pick 0 = 20",
                "put 9 0 1 = 10");
        moved.run("25: as lengthAlone would have told when they were picked", "lengthAlone 0 = 2", "share = 0.5");
        written(moved, "9").run("25: and so on", "planWave 0 = 1", "share = 0.5", "pick 0 = 2", "share = " + 22.0 / 42.0);
    }
}
