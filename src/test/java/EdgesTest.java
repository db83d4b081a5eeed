/**
 * The sentences of the document that name a boundary, promise by promise: what lies just inside it and
 * just outside, the empty and the full. Rows are calls, each with the answer that is due; see Driver.
 */
public final class EdgesTest {
    public static void main(String[] args) {
        constructor();
        newObject();
        put();
        layOut();
        placeOf();
        turnover();
        distance();
        order();
        line();
        orders();
        stateOf();
        lengthAlone();
        Check.end("EdgesTest");
    }

    private static Driver planner(int aisles, int positions, int gap) {
        return new Driver(aisles, positions, gap);
    }

    /** One aisle of 20 positions, product p at position p + 1. */
    private static Driver fullAisle() {
        Driver w = planner(1, 20, 1);
        for (int product = 0; product < 20; product++) {
            w.run("full aisle", "put " + product + " 0 " + (product + 1));
        }
        return w;
    }

    private static void constructor() {
        // What is told, and what it counts as.
        for (String row : new String[] {"MIN 1", "-1 1", "0 1", "1 1", "2 2", "5 5", "6 6", "7 6", "MAX 6"}) {
            int told = Driver.number(row.split(" ")[0]);
            int aisles = Driver.number(row.split(" ")[1]);
            planner(told, 3, 2).run("1: less than 1 aisle counts as 1, more than 6 as 6; told " + told,
                    "put 0 " + (aisles - 1) + " 1 = -1", "put 1 " + aisles + " 1 = BOUNDS",
                    "inAisle " + (aisles - 1) + " = 0", "inAisle " + aisles + " = BOUNDS");
        }
        for (String row : new String[] {"MIN 1", "-1 1", "0 1", "1 1", "2 2", "19 19", "20 20", "21 20", "MAX 20"}) {
            int told = Driver.number(row.split(" ")[0]);
            int last = Driver.number(row.split(" ")[1]);
            planner(2, told, 1).run("1: less than 1 position counts as 1, more than 20 as 20; told " + told,
                    "put 0 0 " + last + " = -1", "put 1 0 " + (last + 1) + " = BOUNDS",
                    // The way across behind them is at 1 more than the last position.
                    "put 1 1 " + last + " = -1", "distance 0 1 = 3");
        }
        for (String row : new String[] {"MIN 1", "-1 1", "0 1", "1 1", "2 2", "8 8", "9 9", "10 9", "MAX 9"}) {
            int told = Driver.number(row.split(" ")[0]);
            int gap = Driver.number(row.split(" ")[1]);
            planner(3, 9, told).run("1: less than 1 gap counts as 1, more as 9; told " + told,
                    "put 0 0 1", "put 1 1 1", "put 2 2 1",
                    "distance 0 1 = " + (gap + 2), "distance 0 2 = " + (2 * gap + 2));
        }
        planner(0, 0, 0).run("1: the smallest warehouse", "put 0 0 1 = -1", "put 1 0 1 = STATE", "distance 0 0 = 0",
                "order 0 = 0", "line 0 0 1 = 1", "planWave 0 = 1", "lengthOf 0 = 2", "lengthThrough 0 = 2", "pick 0 = 2");
        planner(7, 21, 10).run("1: the largest warehouse", "put 0 5 20 = -1", "put 1 0 1 = -1", "distance 0 1 = 66",
                "order 0 = 0", "line 0 0 1 = 1", "planWave 0 = 1", "lengthOf 0 = 130", "lengthThrough 0 = 130", "pick 0 = 130");
    }

    private static void newObject() {
        Driver w = planner(3, 10, 4).run("1: without orders", "orders = 0", "stateOf 0 = BOUNDS", "lengthAlone 0 = BOUNDS",
                "batchOf 0 = BOUNDS", "line 0 0 1 = BOUNDS", "planWave 999 = STATE", "batches = 0", "pick 0 = BOUNDS",
                "linesOf 0 = BOUNDS", "lengthOf 0 = BOUNDS", "lengthByTrying 0 = BOUNDS", "lengthThrough 0 = BOUNDS",
                "stops 0 = BOUNDS", "stopAt 0 0 = BOUNDS", "inAisle 0 = 0", "inAisle 2 = 0", "walked = 0", "share = 1.0");
        for (int product = 0; product < 20; product++) {
            w.run("1: without products", "placeOf " + product + " = -1", "turnover " + product + " = 0",
                    "distance " + product + " " + product + " = STATE");
        }
        w.run("1: without products nothing is laid out", "layOut = 0");
        planner(3, 10, 4).run("1: the capacity is 6", "setCapacity 6 = 6");
        fiveAndMore("1").run("1: six lines go together", "line 1 0 1", "planWave 0 = 1", "linesOf 0 = 6");
        fiveAndMore("1").run("1: seven do not", "line 1 0 1", "line 1 1 1", "planWave 0 = 2", "linesOf 0 = 5");
    }

    /** An order with five lines, and one without any as yet. */
    private static Driver fiveAndMore(String of) {
        return fullAisle().run(of, "order 0", "line 0 0 1", "line 0 1 1", "line 0 2 1", "line 0 3 1", "line 0 4 1", "order 0");
    }

    private static void put() {
        planner(3, 10, 4).run("2: product 0 to 19", "put 0 0 1 = -1", "put 19 0 2 = -1", "put -1 0 3 = BOUNDS",
                "put 20 0 3 = BOUNDS", "put MIN 0 3 = BOUNDS", "put MAX 0 3 = BOUNDS", "placeOf 0 = 1", "placeOf 19 = 2");
        planner(3, 10, 4).run("2: an aisle", "put 0 0 1 = -1", "put 1 2 1 = -1", "put 2 -1 1 = BOUNDS", "put 2 3 1 = BOUNDS",
                "put 2 MIN 1 = BOUNDS", "put 2 MAX 1 = BOUNDS", "placeOf 2 = -1");
        // A place of aisle 1 is not one that lies far behind in aisle 0.
        planner(3, 10, 4).run("2: a position", "put 0 1 1 = -1", "put 1 1 10 = -1", "put 2 1 0 = BOUNDS",
                "put 2 1 11 = BOUNDS", "put 2 1 -1 = BOUNDS", "put 2 1 MIN = BOUNDS", "put 2 1 MAX = BOUNDS",
                "put 2 0 105 = BOUNDS", "put 2 2 -95 = BOUNDS", "placeOf 2 = -1");
        planner(3, 10, 4).run("2: the place at which it was; NONE if at none", "put 7 2 10 = -1", "put 7 0 1 = 210",
                "put 7 1 5 = 1", "put 7 1 5 = 105", "placeOf 7 = 105");
        planner(3, 10, 4).run("2: another product is there", "put 0 0 1", "put 1 0 2", "put 1 0 1 = STATE", "put 2 0 1 = STATE",
                "placeOf 1 = 2", "put 0 0 1 = 1", "put 0 0 3 = 1", "put 1 0 1 = 2", "put 2 0 2 = -1", "put 0 0 1 = STATE");
        planner(1, 1, 1).run("2: one place for all", "put 19 0 1 = -1", "put 0 0 1 = STATE", "put 19 0 1 = 1");
        fullAisle().run("2: no place is free", "put 0 0 2 = STATE", "put 0 0 20 = STATE", "put 19 0 1 = STATE",
                "put 0 0 1 = 1", "put 19 0 20 = 20");
        planner(1, 3, 1).run("2: there is a wave", "put 0 0 1", "order 0", "line 0 0 1", "put 1 0 2 = -1", "planWave 0",
                "put 2 0 3 = STATE", "put 1 0 2 = STATE", "placeOf 2 = -1", "pick 0", "put 2 0 3 = -1");
        planner(1, 20, 1).run("2: there is one until the last batch is picked", "setCapacity 1", "put 0 0 1", "put 1 0 2",
                "order 0", "line 0 0 1", "order 0", "line 1 1 1", "planWave 0 = 2", "pick 1", "put 1 0 3 = STATE", "pick 0",
                "put 1 0 3 = 2");
    }

    private static void layOut() {
        planner(6, 20, 9).run("3: without products", "layOut = 0");
        planner(6, 20, 9).run("3: one product stays", "put 9 5 20", "layOut = 0", "placeOf 9 = 520");
        planner(1, 20, 1).run("3: those at none stay so", "put 5 0 20", "put 4 0 10", "layOut = 0", "placeOf 0 = -1",
                "placeOf 4 = 10", "placeOf 5 = 20", "placeOf 19 = -1");
        Driver full = planner(1, 20, 1);
        for (int product = 0; product < 20; product++) {
            full.run("3: all twenty", "put " + product + " 0 " + (20 - product));
        }
        full.run("3: all twenty", "layOut = 20", "placeOf 0 = 1", "placeOf 1 = 2", "placeOf 18 = 19", "placeOf 19 = 20",
                "layOut = 0");
        planner(3, 10, 4).run("3: same distance by rising numbers", "put 0 1 1", "put 1 0 5", "layOut = 2", "placeOf 0 = 5",
                "placeOf 1 = 101");
        planner(3, 10, 4).run("3: same distance, already by rising numbers", "put 0 0 5", "put 1 1 1", "layOut = 0",
                "placeOf 0 = 5", "placeOf 1 = 101");
        planner(3, 10, 1).run("3: same distance in three aisles", "put 0 1 4", "put 1 2 3", "put 2 0 5", "layOut = 3",
                "placeOf 0 = 5", "placeOf 1 = 104", "placeOf 2 = 203");
        planner(3, 10, 4).run("3: a lower number that is one farther comes behind", "put 0 0 6", "put 1 1 1", "layOut = 2",
                "placeOf 0 = 101", "placeOf 1 = 6");
        planner(3, 10, 4).run("3: same turnover by rising numbers", "put 0 0 2", "put 1 0 1", "order 0", "line 0 0 5",
                "line 0 1 5", "planWave 0", "pick 0", "layOut = 2", "placeOf 0 = 1", "placeOf 1 = 2");
        planner(3, 10, 4).run("3: one more turned over goes first", "put 0 0 1", "put 1 0 2", "order 0", "line 0 0 5",
                "line 0 1 6", "planWave 0", "pick 0", "layOut = 2", "placeOf 1 = 1", "placeOf 0 = 2");
        planner(3, 10, 4).run("3: to the one with the greatest turnover, and so on", "put 0 0 1", "put 1 0 2", "put 2 0 3", "put 3 0 4",
                "order 0", "line 0 1 1", "line 0 2 2", "line 0 3 3", "planWave 0", "pick 0", "layOut = 4", "placeOf 3 = 1",
                "placeOf 2 = 2", "placeOf 1 = 3", "placeOf 0 = 4", "layOut = 0");
        planner(3, 10, 4).run("3: how many are at another place then", "put 0 0 1", "put 1 0 3", "put 2 0 2", "put 3 0 4",
                "layOut = 2", "placeOf 0 = 1", "placeOf 1 = 2", "placeOf 2 = 3", "placeOf 3 = 4");
        planner(1, 20, 1).run("3: there is a wave until its last batch is picked", "setCapacity 1", "put 1 0 1", "put 0 0 2",
                "order 0", "line 0 0 1", "order 0", "line 1 1 1", "planWave 0 = 2", "layOut = STATE", "pick 0",
                "layOut = STATE", "placeOf 0 = 2", "pick 0", "layOut = 2", "placeOf 0 = 1");
    }

    private static void placeOf() {
        planner(6, 20, 9).run("4: 0 to 19", "put 0 0 1", "put 19 5 20", "placeOf 0 = 1", "placeOf 19 = 520", "placeOf -1 = BOUNDS",
                "placeOf 20 = BOUNDS", "placeOf MIN = BOUNDS", "placeOf MAX = BOUNDS");
        planner(6, 20, 9).run("4: NONE if it is at none", "placeOf 3 = -1", "put 3 0 20", "placeOf 3 = 20", "put 3 5 1",
                "placeOf 3 = 501");
    }

    private static void turnover() {
        planner(1, 20, 1).run("5: 0 to 19", "put 0 0 1", "put 19 0 2", "order 0", "line 0 0 2", "line 0 19 3", "planWave 0",
                "pick 0", "turnover 0 = 2", "turnover 19 = 3", "turnover -1 = BOUNDS", "turnover 20 = BOUNDS",
                "turnover MIN = BOUNDS", "turnover MAX = BOUNDS");
        planner(1, 20, 1).run("5: only lines of orders that are done", "put 0 0 1", "turnover 0 = 0", "order 0",
                "line 0 0 99", "order 1", "line 1 0 1", "turnover 0 = 0", "planWave 0", "turnover 0 = 0", "pick 0",
                "turnover 0 = 99", "planWave 1", "turnover 0 = 99", "pick 0", "turnover 0 = 100");
        Driver most = planner(1, 20, 1).run("5", "put 6 0 1");
        for (int number = 0; number < 40; number++) {
            most.run("5", "order 0", "line " + number + " 6 99");
        }
        most.run("5: six of forty orders on each route", "planWave 0 = 7");
        for (int left = 7; left > 0; left--) {
            most.run("5", "batches = " + left, "pick 0 = 2");
        }
        most.run("5: the most of all", "turnover 6 = 3960", "turnover 5 = 0", "walked = 14", "share = 0.175");
    }

    private static void distance() {
        planner(3, 10, 4).run("6: 0 to 19", "put 0 0 1", "put 19 0 10", "distance 0 19 = 9", "distance 19 0 = 9",
                "distance -1 0 = BOUNDS", "distance 20 0 = BOUNDS", "distance 0 -1 = BOUNDS", "distance 0 20 = BOUNDS",
                "distance MIN 0 = BOUNDS", "distance 0 MAX = BOUNDS");
        planner(3, 10, 4).run("6: one of both is at no place", "put 0 0 1", "distance 0 1 = STATE", "distance 1 0 = STATE",
                "distance 1 1 = STATE", "put 1 0 2", "distance 0 1 = 1", "distance 0 0 = 0");
        // 11 is as far by the front as by the back.
        planner(3, 10, 4).run("6: by the front or by the back", "put 0 0 5", "put 1 1 5", "put 2 1 6", "put 3 1 7", "put 4 2 6",
                "distance 0 1 = 14", "distance 0 2 = 15", "distance 0 3 = 14", "distance 0 4 = 19");
        planner(6, 20, 9).run("6: the farthest ones", "put 0 0 1", "put 1 5 20", "put 2 5 1", "put 3 0 20", "put 4 5 19",
                "distance 0 1 = 66", "distance 0 2 = 47", "distance 3 1 = 47", "distance 0 3 = 19", "distance 3 4 = 48");
    }

    private static void order() {
        planner(1, 1, 1).run("7: due 0 to 999", "order -1 = ARGUMENT", "order 1000 = ARGUMENT", "order MIN = ARGUMENT",
                "order MAX = ARGUMENT", "order 0 = 0", "order 999 = 1", "orders = 2");
        planner(1, 1, 1).run("7: due 999 is not before", "put 0 0 1", "order 999", "line 0 0 1", "planWave 998 = STATE",
                "planWave 999 = 1");
        Driver w = planner(1, 1, 1);
        for (int number = 0; number < 40; number++) {
            w.run("7: at most 40", "order 1 = " + number);
        }
        w.run("7: there are 40 orders", "order 1 = STATE", "order 0 = STATE", "order 999 = STATE", "order -1 = ARGUMENT",
                "order 1000 = ARGUMENT", "orders = 40", "stateOf 39 = 0", "stateOf 40 = BOUNDS", "put 0 0 1", "line 39 0 1 = 1",
                "planWave 1 = 1", "order 1 = STATE", "pick 0 = 2", "order 1 = STATE");
    }

    private static void line() {
        fullAisle().run("8: no such order", "line 0 0 1 = BOUNDS", "order 0", "line 0 0 1 = 1", "line 1 0 1 = BOUNDS",
                "line -1 0 1 = BOUNDS", "line MIN 0 1 = BOUNDS", "line MAX 0 1 = BOUNDS", "order 0", "line 1 0 1 = 1",
                "line 2 0 1 = BOUNDS");
        fullAisle().run("8: product 0 to 19", "order 0", "line 0 -1 1 = BOUNDS", "line 0 20 1 = BOUNDS", "line 0 MIN 1 = BOUNDS",
                "line 0 MAX 1 = BOUNDS", "line 0 0 1 = 1", "line 0 19 1 = 2");
        fullAisle().run("8: quantity 1 to 99", "order 0", "line 0 0 0 = ARGUMENT", "line 0 0 100 = ARGUMENT",
                "line 0 0 -1 = ARGUMENT", "line 0 0 MIN = ARGUMENT", "line 0 0 MAX = ARGUMENT", "line 0 0 1 = 1",
                "line 0 1 99 = 2", "planWave 0", "pick 0", "turnover 0 = 1", "turnover 1 = 99");
        fullAisle().run("8: the order is not open", "order 0", "line 0 0 1 = 1", "planWave 0", "line 0 1 1 = STATE", "pick 0",
                "line 0 1 1 = STATE", "order 0", "line 1 1 1 = 1");
        fullAisle().run("8: has 5 lines", "order 0", "setCapacity 9", "line 0 0 1 = 1", "line 0 1 1 = 2", "line 0 2 1 = 3",
                "line 0 3 1 = 4", "line 0 4 1 = 5", "line 0 5 1 = STATE", "line 0 19 1 = STATE");
        for (int capacity = 1; capacity <= 9; capacity++) {
            Driver w = fullAisle().run("8", "setCapacity " + capacity, "order 0");
            for (int product = 0; product < 6; product++) {
                String due = product < Math.min(capacity, 5) ? Integer.toString(product + 1) : "STATE";
                w.run("8: as many as the capacity of " + capacity + " tells", "line 0 " + product + " 1 = " + due);
            }
        }
        fullAisle().run("8: one with this product", "order 0", "line 0 7 3 = 1", "line 0 7 3 = STATE", "line 0 7 4 = STATE",
                "line 0 8 3 = 2", "line 0 7 1 = STATE", "order 0", "line 1 7 1 = 1");
        planner(1, 20, 1).run("8: the product is at no place", "order 0", "line 0 3 1 = STATE", "put 3 0 20", "line 0 3 1 = 1",
                "line 0 4 1 = STATE");
    }

    private static void orders() {
        Driver w = planner(1, 1, 1).run("9: none", "orders = 0", "order -1 = ARGUMENT", "orders = 0");
        for (int number = 1; number <= 40; number++) {
            w.run("9: up to 40", "order 0", "orders = " + number);
        }
        w.run("9: no more", "order 0 = STATE", "orders = 40");
    }

    private static void stateOf() {
        fullAisle().run("10: no such order", "stateOf 0 = BOUNDS", "order 0", "stateOf 0 = 0", "stateOf 1 = BOUNDS",
                "stateOf -1 = BOUNDS", "stateOf MIN = BOUNDS", "stateOf MAX = BOUNDS");
        fullAisle().run("10: 0 open, 1 in the wave, 2 done", "order 5", "line 0 0 1", "order 5", "order 6", "line 2 0 1",
                "stateOf 0 = 0", "planWave 5", "stateOf 0 = 1", "stateOf 1 = 0", "stateOf 2 = 0", "pick 0", "stateOf 0 = 2",
                "planWave 6", "stateOf 0 = 2", "stateOf 1 = 0", "stateOf 2 = 1");
    }

    private static void lengthAlone() {
        fullAisle().run("11: 0 without lines", "lengthAlone 0 = BOUNDS", "order 0", "lengthAlone 0 = 0", "lengthAlone 1 = BOUNDS",
                "lengthAlone -1 = BOUNDS", "lengthAlone MIN = BOUNDS", "lengthAlone MAX = BOUNDS", "line 0 0 1",
                "lengthAlone 0 = 2", "line 0 19 1", "lengthAlone 0 = 40");
        fullAisle().run("11: alone, though in a batch with another", "order 0", "line 0 4 1", "order 0", "line 1 9 1",
                "planWave 0 = 1", "lengthAlone 0 = 10", "lengthAlone 1 = 20", "lengthOf 0 = 20", "pick 0", "lengthAlone 0 = 10",
                "lengthAlone 1 = 20");
        // Round by both ways across it is 132, and 2 into each of three aisles.
        planner(6, 20, 9).run("11: five places far apart", "put 0 0 20", "put 1 1 20", "put 2 2 20", "put 3 4 20", "put 4 5 20",
                "order 0", "line 0 0 1", "line 0 1 1", "line 0 2 1", "line 0 3 1", "line 0 4 1", "lengthAlone 0 = 138");
    }
}
