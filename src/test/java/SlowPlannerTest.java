/** Long runs of calls, right and wrong ones, each answer compared with the slow planner's. */
public final class SlowPlannerTest {
    private static final int RUNS = 120;
    private static final int CALLS = 512;

    private static long seed = 20261119L;

    public static void main(String[] args) {
        for (int run = 0; run < RUNS; run++) {
            compare(run);
        }
        Check.end("SlowPlannerTest");
    }

    /** The same numbers in every run of this test: 0 to less than the bound. */
    private static int some(int bound) {
        seed = seed * 6364136223846793005L + 1442695040888963407L;
        return (int) Math.floorMod(seed >> 33, (long) bound);
    }

    /** Mostly from low to high; now and then one beside, or far away. */
    private static int about(int low, int high) {
        switch (some(60)) {
            case 0: return low - 1;
            case 1: return high + 1;
            case 2: return some(2) == 0 ? Integer.MIN_VALUE : Integer.MAX_VALUE;
            default: return low + some(Math.max(1, high - low + 1));
        }
    }

    private static void compare(int run) {
        int aisles = about(1, 6);
        int positions = some(2) == 0 ? about(1, 20) : about(3, 8);
        int gap = about(1, 9);
        Driver w = new Driver(aisles, positions, gap);
        SlowPlanner due = new SlowPlanner(aisles, positions, gap);
        int deep = Math.max(1, Math.min(20, positions));
        int wide = Math.max(1, Math.min(6, aisles));
        int calls = 0;
        for (int product = 0; product < 20; product++) {
            int[] a = {product, some(wide), 1 + some(deep)};
            both(run, calls++, "put", a, w, due);
        }
        both(run, calls++, "setCapacity", new int[] {1 + some(9)}, w, due);
        // Some runs write many orders before the first wave, so that it has many batches.
        int writing = some(3) == 0 ? 200 : 40;
        while (calls < CALLS) {
            String call = calls < writing ? writingCall() : anyCall();
            both(run, calls++, call, argumentsOf(call, due, wide, deep), w, due);
        }
    }

    private static String writingCall() {
        return some(4) == 0 ? "order" : "line";
    }

    private static String anyCall() {
        String[] calls = {
            "put", "put", "layOut", "placeOf", "turnover", "distance", "order", "order", "order", "line", "line", "line",
            "line", "line", "line", "orders", "stateOf", "lengthAlone", "setCapacity", "planWave", "planWave", "pick", "pick",
            "pick", "batches", "batchOf", "linesOf", "lengthOf", "lengthByTrying", "lengthThrough", "stops", "stopAt",
            "stopAt", "stopAt", "inAisle", "walked", "share",
        };
        return calls[some(calls.length)];
    }

    private static int[] argumentsOf(String call, SlowPlanner due, int wide, int deep) {
        int order = due.orders() - 1;
        int batch = due.batches() - 1;
        switch (call) {
            case "put": return new int[] {about(0, 19), about(0, wide - 1), about(1, deep)};
            case "placeOf": case "turnover": return new int[] {about(0, 19)};
            case "distance": return new int[] {about(0, 19), about(0, 19)};
            case "order": return new int[] {about(0, some(10) == 0 ? 999 : 9)};
            case "line": return new int[] {about(Math.max(0, order - 9), order), about(0, 19), about(1, 99)};
            case "stateOf": case "lengthAlone": case "batchOf": return new int[] {about(0, order)};
            case "setCapacity": return new int[] {about(1, 9)};
            case "planWave": return new int[] {about(0, some(10) == 0 ? 999 : 9)};
            case "stopAt": return new int[] {about(0, batch), about(0, 5)};
            case "inAisle": return new int[] {about(0, wide - 1)};
            case "layOut": case "orders": case "batches": case "walked": case "share": return new int[0];
            default: return new int[] {about(0, batch)};
        }
    }

    private static void both(int run, int number, String call, int[] a, Driver w, SlowPlanner due) {
        String what = "run " + run + ", call " + number + ": " + call + java.util.Arrays.toString(a);
        boolean isDouble = call.equals("share");
        String answer = isDouble ? Check.answerOfDouble(due::share) : Check.answer(() -> slow(due, call, a));
        Check.same(what, answer, w.answer(call, a));
    }

    private static int slow(SlowPlanner due, String call, int[] a) {
        switch (call) {
            case "put": return due.put(a[0], a[1], a[2]);
            case "layOut": return due.layOut();
            case "placeOf": return due.placeOf(a[0]);
            case "turnover": return due.turnover(a[0]);
            case "distance": return due.distance(a[0], a[1]);
            case "order": return due.order(a[0]);
            case "line": return due.line(a[0], a[1], a[2]);
            case "orders": return due.orders();
            case "stateOf": return due.stateOf(a[0]);
            case "lengthAlone": return due.lengthAlone(a[0]);
            case "setCapacity": return due.setCapacity(a[0]);
            case "planWave": return due.planWave(a[0]);
            case "pick": return due.pick(a[0]);
            case "batches": return due.batches();
            case "batchOf": return due.batchOf(a[0]);
            case "linesOf": return due.linesOf(a[0]);
            case "lengthOf": return due.lengthOf(a[0]);
            case "lengthByTrying": return due.lengthByTrying(a[0]);
            case "lengthThrough": return due.lengthThrough(a[0]);
            case "stops": return due.stops(a[0]);
            case "stopAt": return due.stopAt(a[0], a[1]);
            case "inAisle": return due.inAisle(a[0]);
            case "walked": return due.walked();
            default: throw new UnsupportedOperationException(call);
        }
    }
}
