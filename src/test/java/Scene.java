import java.util.ArrayList;
import java.util.List;

/** A planner brought to where a test wants it, and all that can be found out about it from outside. */
enum Scene {
    EMPTY(),
    /** Products 0 to 9 are at places, 10 to 19 at none. */
    STOCKED("put 0 0 5", "put 1 1 9", "put 2 2 2", "put 3 0 1", "put 4 1 1", "put 5 2 10", "put 6 0 10", "put 7 1 4",
            "put 8 2 6", "put 9 0 3"),
    /** Order 0 is done, 1 has two lines, 2 none, 3 five, 4 one; 1 and 4 are due at 5 and 6. */
    OPEN(STOCKED, "order 0", "line 0 4 7", "planWave 0", "pick 0", "order 5", "line 1 0 3", "line 1 1 99", "order 999",
            "order 5", "line 3 2 1", "line 3 3 2", "line 3 4 3", "line 3 5 4", "line 3 6 5", "order 6", "line 4 7 1"),
    /** The wave takes orders 1 and 3, whose seven lines are more than the capacity. */
    IN_WAVE(OPEN, "planWave 5"),
    LAST_BATCH(IN_WAVE, "pick 0"),
    AFTER_WAVE(LAST_BATCH, "pick 0"),
    /** Batch 0 has eight places, batch 1 two. */
    EIGHT_PLACES(STOCKED, "setCapacity 9", "order 0", "line 0 0 1", "line 0 1 1", "line 0 2 1", "line 0 3 1", "line 0 4 1",
            "order 0", "line 1 5 1", "line 1 6 1", "line 1 7 1", "order 0", "line 2 8 1", "line 2 9 1", "planWave 0"),
    /** Order 0 has as many lines as the capacity tells. */
    NARROW(STOCKED, "setCapacity 2", "order 3", "line 0 0 1", "line 0 1 1", "order 3"),
    /** Only order 0 has lines, and it is done; order 1 has none. */
    NOTHING_TO_TAKE(STOCKED, "order 0", "line 0 0 1", "planWave 0", "pick 0", "order 0"),
    FORTY_ORDERS(forty());

    static final int AISLES = 3;
    static final int POSITIONS = 10;
    static final int PRODUCTS = 20;

    private final List<String> rows = new ArrayList<>();

    Scene(String... rows) {
        this.rows.addAll(List.of(rows));
    }

    Scene(Scene before, String... rows) {
        this.rows.addAll(before.rows);
        this.rows.addAll(List.of(rows));
    }

    private static String[] forty() {
        List<String> rows = new ArrayList<>(STOCKED.rows);
        for (int number = 0; number < 40; number++) {
            rows.add("order " + number % 10);
            if (number % 3 == 0) {
                rows.add("line " + number + " " + number % 10 + " 2");
            }
        }
        return rows.toArray(new String[0]);
    }

    Driver made() {
        return new Driver(AISLES, POSITIONS, 4).run("scene " + this, rows.toArray(new String[0]));
    }

    /** What all the calls answer that ask. */
    static List<String> asked(Driver w) {
        List<String> told = new ArrayList<>();
        for (int product = 0; product < PRODUCTS; product++) {
            tell(told, w, "placeOf " + product, "turnover " + product, "distance 0 " + product);
        }
        int orders = Integer.parseInt(tell(told, w, "orders"));
        for (int order = 0; order < orders; order++) {
            tell(told, w, "stateOf " + order, "lengthAlone " + order, "batchOf " + order);
        }
        int batches = Integer.parseInt(tell(told, w, "batches"));
        for (int batch = 0; batch < batches; batch++) {
            tell(told, w, "linesOf " + batch, "lengthOf " + batch, "lengthByTrying " + batch, "lengthThrough " + batch);
            int stops = Integer.parseInt(tell(told, w, "stops " + batch));
            for (int stop = 0; stop < stops; stop++) {
                tell(told, w, "stopAt " + batch + " " + stop);
            }
        }
        for (int aisle = 0; aisle < AISLES; aisle++) {
            tell(told, w, "inAisle " + aisle);
        }
        tell(told, w, "walked", "share");
        return told;
    }

    /** What it answers when it goes on: this shows the capacity, due times, lines and quantities, which no call asks. */
    static List<String> goneOn(Driver w) {
        List<String> told = new ArrayList<>();
        pickAll(told, w);
        tell(told, w, "setCapacity 9");
        int orders = Integer.parseInt(tell(told, w, "orders"));
        for (int order = 0; order < orders; order++) {
            tell(told, w, "line " + order + " 9 1");
        }
        tell(told, w, "order 7");
        for (int time : new int[] {0, 4, 5, 6, 998, 999}) {
            tell(told, w, "planWave " + time);
            pickAll(told, w);
        }
        for (int product = 0; product < PRODUCTS; product++) {
            tell(told, w, "turnover " + product);
        }
        tell(told, w, "layOut");
        for (int product = 0; product < PRODUCTS; product++) {
            tell(told, w, "placeOf " + product);
        }
        tell(told, w, "walked", "share");
        return told;
    }

    private static void pickAll(List<String> told, Driver w) {
        int batches = Integer.parseInt(tell(told, w, "batches"));
        for (int batch = 0; batch < batches; batch++) {
            tell(told, w, "pick 0");
        }
    }

    private static String tell(List<String> told, Driver w, String... calls) {
        String answer = "";
        for (String call : calls) {
            answer = w.answer(call);
            told.add(call + " = " + answer);
        }
        return answer;
    }
}
