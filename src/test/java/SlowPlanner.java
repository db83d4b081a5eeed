import java.util.ArrayList;
import java.util.Arrays;
import java.util.Comparator;
import java.util.HashMap;
import java.util.List;
import java.util.Map;
import java.util.TreeSet;

/**
 * The document again, written another way to compare with: ways are found step by step in the plan of
 * the warehouse, routes by going through the orders of places, and savings anew for each joining.
 */
final class SlowPlanner {
    private final int aisles;
    private final int positions;
    private final int gap;
    private final int[][] steps;
    private final Integer[] places = new Integer[20];
    private final List<Written> orders = new ArrayList<>();
    private final List<List<Integer>> batches = new ArrayList<>();
    private final Map<String, List<Integer>> routes = new HashMap<>();
    private int capacity = 6;
    private int walked;
    private int alone;

    private static final class Written {
        int due;
        int state;
        final List<int[]> lines = new ArrayList<>();
    }

    SlowPlanner(int aisles, int positions, int gap) {
        this.aisles = aisles < 1 ? 1 : aisles > 6 ? 6 : aisles;
        this.positions = positions < 1 ? 1 : positions > 20 ? 20 : positions;
        this.gap = gap < 1 ? 1 : gap > 9 ? 9 : gap;
        this.steps = allWays();
    }

    /** The shortest ways between all points of the plan, ways across included, by Floyd and Warshall. */
    private int[][] allWays() {
        int deep = positions + 2;
        int points = aisles * deep;
        int[][] way = new int[points][points];
        for (int[] row : way) {
            Arrays.fill(row, 1_000_000);
        }
        for (int point = 0; point < points; point++) {
            way[point][point] = 0;
            if (point % deep + 1 < deep) {
                way[point][point + 1] = way[point + 1][point] = 1;
            }
            boolean across = point % deep == 0 || point % deep == deep - 1;
            if (across && point + deep < points) {
                way[point][point + deep] = way[point + deep][point] = gap;
            }
        }
        for (int by = 0; by < points; by++) {
            for (int from = 0; from < points; from++) {
                for (int to = 0; to < points; to++) {
                    way[from][to] = Math.min(way[from][to], way[from][by] + way[by][to]);
                }
            }
        }
        return way;
    }

    private int way(int place, int other) {
        int deep = positions + 2;
        return steps[place / 100 * deep + place % 100][other / 100 * deep + other % 100];
    }

    private boolean wave() {
        return !batches.isEmpty();
    }

    private static void product(int product) {
        bounds(product >= 0 && product <= 19);
    }

    private static void bounds(boolean fits) {
        if (!fits) {
            throw new IndexOutOfBoundsException();
        }
    }

    private static void argument(boolean fits) {
        if (!fits) {
            throw new IllegalArgumentException();
        }
    }

    private static void state(boolean fits) {
        if (!fits) {
            throw new IllegalStateException();
        }
    }

    private Written written(int order) {
        bounds(order >= 0 && order < orders.size());
        return orders.get(order);
    }

    private List<Integer> batch(int batch) {
        bounds(batch >= 0 && batch < batches.size());
        return batches.get(batch);
    }

    int put(int product, int aisle, int position) {
        product(product);
        bounds(aisle >= 0 && aisle < aisles && position >= 1 && position <= positions);
        int place = 100 * aisle + position;
        for (int other = 0; other < 20; other++) {
            state(other == product || places[other] == null || places[other] != place);
        }
        state(!wave());
        int before = placeOf(product);
        places[product] = place;
        return before;
    }

    int layOut() {
        state(!wave());
        List<Integer> products = new ArrayList<>();
        List<Integer> free = new ArrayList<>();
        for (int product = 0; product < 20; product++) {
            if (places[product] != null) {
                products.add(product);
                free.add(places[product]);
            }
        }
        free.sort(Comparator.comparing((Integer place) -> way(0, place)).thenComparing(place -> place));
        products.sort(Comparator.comparing((Integer product) -> -turnover(product)).thenComparing(product -> product));
        int moved = 0;
        for (int rank = 0; rank < free.size(); rank++) {
            if (!free.get(rank).equals(places[products.get(rank)])) {
                moved++;
            }
            places[products.get(rank)] = free.get(rank);
        }
        return moved;
    }

    int placeOf(int product) {
        product(product);
        return places[product] == null ? -1 : places[product];
    }

    int turnover(int product) {
        product(product);
        int sum = 0;
        for (Written order : orders) {
            for (int[] line : order.lines) {
                sum += order.state == 2 && line[0] == product ? line[1] : 0;
            }
        }
        return sum;
    }

    int distance(int one, int other) {
        product(one);
        product(other);
        state(places[one] != null && places[other] != null);
        return way(places[one], places[other]);
    }

    int order(int due) {
        argument(due >= 0 && due <= 999);
        state(orders.size() < 40);
        Written order = new Written();
        order.due = due;
        orders.add(order);
        return orders.size() - 1;
    }

    int line(int order, int product, int quantity) {
        Written written = written(order);
        product(product);
        argument(quantity >= 1 && quantity <= 99);
        state(written.state == 0 && written.lines.size() < 5 && written.lines.size() < capacity);
        for (int[] line : written.lines) {
            state(line[0] != product);
        }
        state(places[product] != null);
        written.lines.add(new int[] {product, quantity});
        return written.lines.size();
    }

    int orders() {
        return orders.size();
    }

    int stateOf(int order) {
        return written(order).state;
    }

    int lengthAlone(int order) {
        written(order);
        return length(List.of(order));
    }

    int setCapacity(int lines) {
        argument(lines >= 1 && lines <= 9);
        state(!wave());
        for (Written order : orders) {
            state(order.state == 2 || order.lines.size() <= lines);
        }
        int before = capacity;
        capacity = lines;
        return before;
    }

    int planWave(int time) {
        argument(time >= 0 && time <= 999);
        state(!wave());
        List<List<Integer>> taken = new ArrayList<>();
        for (int number = 0; number < orders.size(); number++) {
            Written order = orders.get(number);
            if (order.state == 0 && !order.lines.isEmpty() && order.due <= time) {
                taken.add(List.of(number));
            }
        }
        state(!taken.isEmpty());
        for (List<Integer> batch : taken) {
            orders.get(batch.get(0)).state = 1;
        }
        while (join(taken)) {
            continue;
        }
        batches.addAll(taken);
        return batches.size();
    }

    private boolean join(List<List<Integer>> taken) {
        int greatest = 0;
        int[] best = null;
        for (int first = 0; first < taken.size(); first++) {
            for (int second = first + 1; second < taken.size(); second++) {
                List<Integer> both = both(taken.get(first), taken.get(second));
                if (lines(both) <= capacity) {
                    int saving = length(taken.get(first)) + length(taken.get(second)) - length(both);
                    if (saving > greatest) {
                        greatest = saving;
                        best = new int[] {first, second};
                    }
                }
            }
        }
        if (best != null) {
            taken.set(best[0], both(taken.get(best[0]), taken.get(best[1])));
            taken.remove(best[1]);
        }
        return best != null;
    }

    private static List<Integer> both(List<Integer> one, List<Integer> other) {
        List<Integer> both = new ArrayList<>(one);
        both.addAll(other);
        return both;
    }

    private int lines(List<Integer> batch) {
        int lines = 0;
        for (int number : batch) {
            lines += orders.get(number).lines.size();
        }
        return lines;
    }

    private TreeSet<Integer> placesOf(List<Integer> batch) {
        TreeSet<Integer> of = new TreeSet<>();
        for (int number : batch) {
            for (int[] line : orders.get(number).lines) {
                of.add(places[line[0]]);
            }
        }
        return of;
    }

    private int length(List<Integer> batch) {
        return lengthOfRoute(route(batch));
    }

    private int lengthOfRoute(List<Integer> route) {
        int at = 0;
        int length = 0;
        for (int place : route) {
            length += way(at, place);
            at = place;
        }
        return length + way(at, 0);
    }

    private List<Integer> route(List<Integer> batch) {
        TreeSet<Integer> left = placesOf(batch);
        return routes.computeIfAbsent(left.toString(), key -> bestRoute(new ArrayList<>(), left, 0, null));
    }

    /** Goes through all orders by rising numbers, so the first of several best ones stays. */
    private List<Integer> bestRoute(List<Integer> begun, TreeSet<Integer> left, int length, List<Integer> best) {
        int at = begun.isEmpty() ? 0 : begun.get(begun.size() - 1);
        if (best != null && length + way(at, 0) >= lengthOfRoute(best)) {
            return best;
        }
        if (left.isEmpty()) {
            return new ArrayList<>(begun);
        }
        List<Integer> found = best;
        for (int next : new ArrayList<>(left)) {
            begun.add(next);
            left.remove(next);
            found = bestRoute(begun, left, length + way(at, next), found);
            left.add(next);
            begun.remove(begun.size() - 1);
        }
        return found;
    }

    int pick(int batch) {
        List<Integer> picked = batch(batch);
        int length = length(picked);
        for (int number : picked) {
            alone += length(List.of(number));
            orders.get(number).state = 2;
        }
        walked += length;
        batches.remove(batch);
        return length;
    }

    int batches() {
        return batches.size();
    }

    int batchOf(int order) {
        written(order);
        for (int number = 0; number < batches.size(); number++) {
            if (batches.get(number).contains(order)) {
                return number;
            }
        }
        return -1;
    }

    int linesOf(int batch) {
        return lines(batch(batch));
    }

    int lengthOf(int batch) {
        return length(batch(batch));
    }

    int lengthByTrying(int batch) {
        List<Integer> tried = batch(batch);
        state(placesOf(tried).size() <= 7);
        return length(tried);
    }

    /** Walks from aisle to aisle, at the front or at the back. */
    int lengthThrough(int batch) {
        TreeSet<Integer> by = placesOf(batch(batch));
        int last = by.last() / 100;
        int back = positions + 1;
        int at = 0;
        int length = 0;
        for (int aisle = 0; aisle <= last; aisle++) {
            Integer farthest = by.lower(100 * aisle + 99);
            if (farthest == null || farthest / 100 != aisle) {
                continue;
            }
            int before = 100 * aisle + at % 100;
            length += way(at, before);
            if (aisle == last && at % 100 == 0) {
                length += 2 * way(before, farthest);
                at = before;
            } else {
                at = 100 * aisle + (back - at % 100);
                length += way(before, at);
            }
        }
        return length + way(at, 0);
    }

    int stops(int batch) {
        return route(batch(batch)).size();
    }

    int stopAt(int batch, int stop) {
        List<Integer> route = route(batch(batch));
        bounds(stop >= 0 && stop < route.size());
        return route.get(stop);
    }

    int inAisle(int aisle) {
        bounds(aisle >= 0 && aisle < aisles);
        int count = 0;
        for (List<Integer> batch : batches) {
            count += placesOf(batch).stream().anyMatch(place -> place / 100 == aisle) ? 1 : 0;
        }
        return count;
    }

    int walked() {
        return walked;
    }

    double share() {
        return alone == 0 ? 1.0 : (double) walked / (double) alone;
    }
}
