/** A planner whose calls are told as texts, "put 0 0 5", so that tests can keep them in tables. */
final class Driver {
    /** What later calls answer is free. */
    private static final int MOST_CALLS = 512;

    private final Aislewright planner;
    private int calls;

    Driver(int aisles, int positions, int gap) {
        planner = new Aislewright(aisles, positions, gap);
    }

    /** What the call answers, in the way of Check; MIN and MAX stand for the outermost numbers. */
    String answer(String call) {
        String[] words = call.split(" ");
        int[] a = new int[words.length - 1];
        for (int i = 0; i < a.length; i++) {
            a[i] = number(words[i + 1]);
        }
        return answer(words[0], a);
    }

    static int number(String word) {
        switch (word) {
            case "MIN": return Integer.MIN_VALUE;
            case "MAX": return Integer.MAX_VALUE;
            default: return Integer.parseInt(word);
        }
    }

    String answer(String name, int... a) {
        calls++;
        if (calls > MOST_CALLS) {
            throw new AssertionError("the test makes more calls than the document allows for one object");
        }
        return name.equals("share") ? Check.answerOfDouble(planner::share) : Check.answer(() -> ask(name, a));
    }

    /**
     * Makes calls, one a row. A row ends with the answer that is due, "put 0 0 5 = -1" or
     * "put 0 0 0 = BOUNDS"; one without an answer is there to get on, and must not be refused.
     */
    Driver run(String what, String... rows) {
        for (String row : rows) {
            String[] parts = row.split(" = ");
            String got = answer(parts[0]);
            if (parts.length > 1) {
                Check.same(what + ": " + parts[0], due(parts[1]), got);
            } else if (got.startsWith("throw")) {
                Check.same(what + ": " + row, "no exception", got);
            }
        }
        return this;
    }

    private static String due(String told) {
        switch (told) {
            case "BOUNDS": return Check.BOUNDS;
            case "ARGUMENT": return Check.ARGUMENT;
            case "STATE": return Check.STATE;
            default: return told;
        }
    }

    private int ask(String call, int[] a) {
        switch (call) {
            case "put": return planner.put(a[0], a[1], a[2]);
            case "layOut": return planner.layOut();
            case "placeOf": return planner.placeOf(a[0]);
            case "turnover": return planner.turnover(a[0]);
            case "distance": return planner.distance(a[0], a[1]);
            case "order": return planner.order(a[0]);
            case "line": return planner.line(a[0], a[1], a[2]);
            case "orders": return planner.orders();
            case "stateOf": return planner.stateOf(a[0]);
            case "lengthAlone": return planner.lengthAlone(a[0]);
            case "setCapacity": return planner.setCapacity(a[0]);
            case "planWave": return planner.planWave(a[0]);
            case "pick": return planner.pick(a[0]);
            case "batches": return planner.batches();
            case "batchOf": return planner.batchOf(a[0]);
            case "linesOf": return planner.linesOf(a[0]);
            case "lengthOf": return planner.lengthOf(a[0]);
            case "lengthByTrying": return planner.lengthByTrying(a[0]);
            case "lengthThrough": return planner.lengthThrough(a[0]);
            case "stops": return planner.stops(a[0]);
            case "stopAt": return planner.stopAt(a[0], a[1]);
            case "inAisle": return planner.inAisle(a[0]);
            case "walked": return planner.walked();
            default: throw new AssertionError("no such call: " + call);
        }
    }
}
