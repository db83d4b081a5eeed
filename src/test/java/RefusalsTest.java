import java.util.List;

/**
 * "A call that throws an exception changes nothing. If several apply, the one that the throws clause
 * names first is thrown.": each call that may be refused, in each scene in which it is, is refused with
 * the exception that is due, and leaves a planner that answers as one that was never asked.
 */
public final class RefusalsTest {
    /** A name's place tells its promise. */
    private static final List<String> PROMISES = List.of(
            "", "Aislewright", "put", "layOut", "placeOf", "turnover", "distance", "order", "line", "orders", "stateOf",
            "lengthAlone", "setCapacity", "planWave", "pick", "batches", "batchOf", "linesOf", "lengthOf", "lengthByTrying",
            "lengthThrough", "stops", "stopAt", "inAisle", "walked", "share");
    private static final String[] NO_PRODUCT = {"-1", "20", "MIN", "MAX"};
    private static final String[] NO_AISLE = {"-1", "3", "MIN", "MAX"};
    private static final String[] NO_POSITION = {"0", "11", "-1", "MIN", "MAX"};
    private static final String[] NO_TIME = {"-1", "1000", "MIN", "MAX"};
    private static final String[] NO_QUANTITY = {"0", "100", "-1", "MIN", "MAX"};
    private static final String[] NO_CAPACITY = {"0", "10", "-1", "MIN", "MAX"};

    public static void main(String[] args) {
        for (Scene scene : Scene.values()) {
            outOfRange(scene);
            askingChangesNothing(scene);
        }
        refusedByTheState();
        placesBeforeTheState();
        productsBeforeTheState();
        rangesBeforeTheState();
        linesWithSeveralWrongs();
        Check.end("RefusalsTest");
    }

    private static void refused(Scene scene, String call, String due) {
        int promise = PROMISES.indexOf(call.split(" ")[0]);
        String what = promise + ": " + call + " in " + scene;
        Driver w = scene.made();
        Check.same(what, due, w.answer(call));
        Driver untouched = scene.made();
        alike(what + " changes nothing", Scene.asked(untouched), Scene.asked(w));
        alike(what + " changes nothing", Scene.goneOn(untouched), Scene.goneOn(w));
    }

    /** Says where they differ first: all of both would be too long to read. */
    private static void alike(String what, List<String> due, List<String> got) {
        int at = 0;
        while (at < due.size() && at < got.size() && due.get(at).equals(got.get(at))) {
            at++;
        }
        Check.same(what, at < due.size() ? due.get(at) : "the end", at < got.size() ? got.get(at) : "the end");
    }

    /** "Calls that ask change nothing." */
    private static void askingChangesNothing(Scene scene) {
        Driver twice = scene.made();
        alike("asked twice in " + scene, Scene.asked(twice), Scene.asked(twice));
        Driver asked = scene.made();
        Scene.asked(asked);
        alike("gone on after asking in " + scene, Scene.goneOn(scene.made()), Scene.goneOn(asked));
    }

    /** The calls that are refused in every scene, for the numbers they are given. */
    private static void outOfRange(Scene scene) {
        int orders = Integer.parseInt(scene.made().answer("orders"));
        int batches = Integer.parseInt(scene.made().answer("batches"));
        each(scene, NO_PRODUCT, Check.BOUNDS, "put ? 0 2", "placeOf ?", "turnover ?", "distance ? 0", "distance 0 ?",
                "distance ? ?", "line 0 ? 1");
        each(scene, NO_AISLE, Check.BOUNDS, "put 0 ? 2", "inAisle ?");
        each(scene, NO_POSITION, Check.BOUNDS, "put 0 0 ?", "put 0 2 ?");
        each(scene, NO_TIME, Check.ARGUMENT, "order ?", "planWave ?");
        each(scene, NO_CAPACITY, Check.ARGUMENT, "setCapacity ?");
        each(scene, beside(orders), Check.BOUNDS, "line ? 0 1", "stateOf ?", "lengthAlone ?", "batchOf ?");
        each(scene, beside(batches), Check.BOUNDS, "pick ?", "linesOf ?", "lengthOf ?", "lengthByTrying ?",
                "lengthThrough ?", "stops ?", "stopAt ? 0");
        if (orders > 0) {
            each(scene, NO_QUANTITY, Check.ARGUMENT, "line 0 0 ?");
        }
        for (int batch = 0; batch < batches; batch++) {
            int stops = Integer.parseInt(scene.made().answer("stops " + batch));
            each(scene, beside(stops), Check.BOUNDS, "stopAt " + batch + " ?");
        }
    }

    /** The numbers just outside 0 to less than the bound, and the outermost. */
    private static String[] beside(int bound) {
        return new String[] {"-1", "" + bound, "MIN", "MAX"};
    }

    private static void each(Scene scene, String[] numbers, String due, String... calls) {
        for (String call : calls) {
            for (String number : numbers) {
                refused(scene, call.replace("?", number), due);
            }
        }
    }

    /** Each ground that a clause of IllegalStateException names, and no other one with it. */
    private static void refusedByTheState() {
        String[][] rows = {
            // 2: another product is there, or there is a wave
            {"OPEN", "put 10 0 5", "put 1 0 5", "put 0 1 9"},
            {"IN_WAVE LAST_BATCH", "put 10 1 1", "put 0 0 5", "put 0 0 2", "put 10 2 9"},
            // 3: there is a wave
            {"IN_WAVE LAST_BATCH EIGHT_PLACES", "layOut"},
            // 6: one of both is at no place
            {"STOCKED IN_WAVE", "distance 10 0", "distance 0 10", "distance 10 10", "distance 19 9"},
            {"EMPTY", "distance 0 1", "distance 0 0"},
            // 7: there are 40 orders
            {"FORTY_ORDERS", "order 0", "order 999"},
            // 8: the order is not open: done, in the wave
            {"OPEN", "line 0 1 1"},
            {"IN_WAVE LAST_BATCH", "line 3 7 1", "line 0 1 1"},
            {"IN_WAVE", "line 1 2 1"},
            {"LAST_BATCH AFTER_WAVE", "line 1 2 1"},
            // 8: it has 5 lines, as many as the capacity tells, or one with this product
            {"OPEN", "line 3 0 1"},
            {"NARROW", "line 0 2 1"},
            {"OPEN", "line 1 0 3", "line 1 0 4", "line 1 1 1", "line 4 7 1"},
            // 8: the product is at no place
            {"OPEN", "line 1 10 1", "line 2 19 99"},
            // 12: an order that is not done has more lines, or there is a wave
            {"OPEN", "setCapacity 4", "setCapacity 1"},
            {"NARROW", "setCapacity 1"},
            {"IN_WAVE LAST_BATCH EIGHT_PLACES", "setCapacity 9", "setCapacity 6"},
            // 13: there is a wave, or it would take no order
            {"IN_WAVE LAST_BATCH", "planWave 5", "planWave 999"},
            {"EMPTY STOCKED NOTHING_TO_TAKE", "planWave 0", "planWave 999"},
            {"NARROW", "planWave 0", "planWave 2"},
            {"AFTER_WAVE", "planWave 5"},
            // 19: it has more than 7 places
            {"EIGHT_PLACES", "lengthByTrying 0"},
        };
        for (String[] row : rows) {
            for (String scene : row[0].split(" ")) {
                for (int i = 1; i < row.length; i++) {
                    refused(Scene.valueOf(scene), row[i], Check.STATE);
                }
            }
        }
    }

    /** 2: no such product or place, and another product is there, or there is a wave. */
    private static void placesBeforeTheState() {
        each(Scene.OPEN, NO_PRODUCT, Check.BOUNDS, "put ? 0 5");
        for (Scene wave : new Scene[] {Scene.IN_WAVE, Scene.LAST_BATCH}) {
            each(wave, NO_PRODUCT, Check.BOUNDS, "put ? 0 5", "put ? 1 1");
            each(wave, NO_AISLE, Check.BOUNDS, "put 10 ? 1", "put 0 ? 5");
            each(wave, NO_POSITION, Check.BOUNDS, "put 10 1 ?", "put 0 0 ?");
        }
    }

    /** 6: no such product, and the other one is at no place. 19: no such batch, and batch 0 has too many places. */
    private static void productsBeforeTheState() {
        each(Scene.STOCKED, NO_PRODUCT, Check.BOUNDS, "distance ? 10", "distance 10 ?");
        each(Scene.EMPTY, NO_PRODUCT, Check.BOUNDS, "distance ? 0", "distance 0 ?");
        each(Scene.EIGHT_PLACES, beside(2), Check.BOUNDS, "lengthByTrying ?");
    }

    /** 7, 12, 13: what is out of range is told before how things stand. */
    private static void rangesBeforeTheState() {
        each(Scene.FORTY_ORDERS, NO_TIME, Check.ARGUMENT, "order ?");
        for (Scene scene : new Scene[] {Scene.OPEN, Scene.NARROW, Scene.IN_WAVE, Scene.LAST_BATCH}) {
            each(scene, NO_CAPACITY, Check.ARGUMENT, "setCapacity ?");
        }
        for (Scene scene : new Scene[] {Scene.EMPTY, Scene.NOTHING_TO_TAKE, Scene.IN_WAVE, Scene.LAST_BATCH}) {
            each(scene, NO_TIME, Check.ARGUMENT, "planWave ?");
        }
    }

    /** 8: bounds before the range of the quantity, and both before the state. */
    private static void linesWithSeveralWrongs() {
        for (String wrong : new String[] {"0", "100"}) {
            each(Scene.OPEN, beside(5), Check.BOUNDS, "line ? 0 " + wrong, "line ? 10 " + wrong);
            each(Scene.OPEN, NO_PRODUCT, Check.BOUNDS, "line 1 ? " + wrong, "line 0 ? " + wrong, "line 3 ? " + wrong);
        }
        each(Scene.OPEN, beside(5), Check.BOUNDS, "line ? 10 1", "line ? 20 1", "line ? -1 0");
        each(Scene.OPEN, NO_PRODUCT, Check.BOUNDS, "line 0 ? 1", "line 3 ? 1");
        each(Scene.IN_WAVE, NO_PRODUCT, Check.BOUNDS, "line 1 ? 1", "line 3 ? 1");
        each(Scene.NARROW, NO_PRODUCT, Check.BOUNDS, "line 0 ? 1");
        // Done; five lines; one with this product; at no place.
        each(Scene.OPEN, NO_QUANTITY, Check.ARGUMENT, "line 0 1 ?", "line 3 0 ?", "line 1 0 ?", "line 1 10 ?");
        // In the wave; as many as the capacity tells.
        each(Scene.IN_WAVE, NO_QUANTITY, Check.ARGUMENT, "line 1 2 ?");
        each(Scene.NARROW, NO_QUANTITY, Check.ARGUMENT, "line 0 2 ?");
    }
}
