import java.util.Arrays;

/** Paths between two places of a graph, in order. All rows are made with the object; no call makes more. */
public final class NextPaths {
    public static final int NONE = -1, BAD = -2, FULL = -3;

    private static final int MAX_NODES = 8;
    private static final int MAX_ARCS = 20;
    private static final int MAX_WEIGHT = 1000;
    private static final int MAX_K = 299;
    private static final int MAX_APART = 5;
    private static final int MAX_LIMIT = 7000;

    /** A PATH comes to no NODE twice. */
    private static final int MAX_STEPS = MAX_NODES - 1;

    /**
     * A PATH takes one of the ARCS that leave each of at most 7 NODES, and an ARC leaves one NODE alone: so there are
     * no more PATHS than the greatest product of 7 numbers that are 20 together, which is 3 * 3 * 3 * 3 * 3 * 3 * 2.
     */
    private static final int MAX_PATHS = 1458;

    private final Graph graph;
    private final PathHeap heap;
    private final PathFinder finder;
    private final Flow flow;
    private final ToldPath lastTold;
    private final BestPairs lastPairs;

    public NextPaths() {
        graph = new Graph();
        heap = new PathHeap();
        finder = new PathFinder(graph, heap);
        flow = new Flow(graph);
        lastTold = new ToldPath();
        lastPairs = new BestPairs();
    }

    public int clear() {
        int before = graph.arcs;
        graph.empty();
        lastTold.empty();
        lastPairs.empty();
        return before;
    }

    public int node() {
        return graph.addNode();
    }

    public int arc(int from, int to, int weight, int second) {
        if (!graph.areTwoNodes(from, to) || !isWeight(weight) || !isWeight(second)) {
            return BAD;
        }
        return graph.addArc(from, to, weight, second);
    }

    public int change(int arc, int weight, int second) {
        if (!graph.isArc(arc) || !isWeight(weight) || !isWeight(second)) {
            return BAD;
        }
        int before = graph.weight[arc];
        graph.weight[arc] = weight;
        graph.second[arc] = second;
        return before;
    }

    public int shut(int arc, boolean is) {
        if (!graph.isArc(arc)) {
            return BAD;
        }
        boolean before = graph.isShut[arc];
        graph.isShut[arc] = is;
        return before ? 1 : 0;
    }

    public int next(int a, int b, int k) {
        if (!graph.areTwoNodes(a, b) || !liesIn(k, 0, MAX_K)) {
            return BAD;
        }
        finder.findAll(a, b);
        if (k >= heap.size) {
            return NONE;
        }
        for (int i = 0; i < k; i++) {
            heap.takeFirst();
        }
        return lastTold.tell(graph, heap.takeFirst());
    }

    public int count(int a, int b) {
        if (!graph.areTwoNodes(a, b)) {
            return BAD;
        }
        finder.findAll(a, b);
        return heap.size;
    }

    public int apart(int a, int b, int n, int by) {
        if (!graph.areTwoNodes(a, b) || !liesIn(n, 1, MAX_APART) || !liesIn(by, 0, 1)) {
            return BAD;
        }
        flow.prepare(a, b, by == 1);
        int total = 0;
        for (int i = 0; i < n; i++) {
            int more = flow.addPath();
            if (more == NONE) {
                return NONE;
            }
            total += more;
        }
        return total;
    }

    public int most(int a, int b, int by) {
        if (!graph.areTwoNodes(a, b) || !liesIn(by, 0, 1)) {
            return BAD;
        }
        flow.prepare(a, b, by == 1);
        int found = 0;
        while (found < MAX_ARCS && flow.addPath() != NONE) {
            found++;
        }
        return found;
    }

    public int within(int a, int b, int limit) {
        if (!graph.areTwoNodes(a, b) || !liesIn(limit, 0, MAX_LIMIT)) {
            return BAD;
        }
        finder.findAll(a, b);
        for (int left = heap.size; left > 0; left--) {
            long path = heap.takeFirst();
            if (graph.secondOf(path) <= limit) {
                return lastTold.tell(graph, path);
            }
        }
        return NONE;
    }

    public int pairs(int a, int b) {
        if (!graph.areTwoNodes(a, b)) {
            return BAD;
        }
        finder.findAll(a, b);
        lastPairs.empty();
        for (int left = heap.size; left > 0; left--) {
            long path = heap.takeFirst();
            lastPairs.offer(PathCode.weightIn(path), graph.secondOf(path));
        }
        return lastPairs.size;
    }

    public int pair(int i, int what) {
        if (!liesIn(i, 0, lastPairs.size - 1)) {
            return BAD;
        }
        switch (what) {
            case 0: return lastPairs.weights[i];
            case 1: return lastPairs.seconds[i];
            default: return BAD;
        }
    }

    public int step(int i) {
        return liesIn(i, 0, lastTold.length - 1) ? lastTold.steps[i] : BAD;
    }

    public int sum(int what) {
        if (!liesIn(what, 0, 2)) {
            return BAD;
        }
        if (lastTold.length == 0) {
            return NONE;
        }
        switch (what) {
            case 0: return lastTold.weight;
            case 1: return lastTold.second;
            default: return lastTold.length;
        }
    }

    public int told(int arc, int what) {
        if (!graph.isArc(arc)) {
            return BAD;
        }
        switch (what) {
            case 0: return graph.from[arc];
            case 1: return graph.to[arc];
            case 2: return graph.weight[arc];
            case 3: return graph.second[arc];
            case 4: return graph.isShut[arc] ? 1 : 0;
            default: return BAD;
        }
    }

    public int of(int what) {
        switch (what) {
            case 0: return graph.nodes;
            case 1: return graph.arcs;
            case 2: return graph.shutArcs();
            default: return BAD;
        }
    }

    private static boolean liesIn(int number, int least, int greatest) {
        return least <= number && number <= greatest;
    }

    private static boolean isWeight(int number) {
        return liesIn(number, 0, MAX_WEIGHT);
    }

    /** The NODES and ARCS. */
    private static final class Graph {
        private int nodes;
        private int arcs;
        private final int[] from = new int[MAX_ARCS];
        private final int[] to = new int[MAX_ARCS];
        private final int[] weight = new int[MAX_ARCS];
        private final int[] second = new int[MAX_ARCS];
        private final boolean[] isShut = new boolean[MAX_ARCS];
        private final int[][] leaving = new int[MAX_NODES][MAX_ARCS];
        private final int[] leavingSize = new int[MAX_NODES];

        private void empty() {
            nodes = 0;
            arcs = 0;
            Arrays.fill(leavingSize, 0);
        }

        private boolean isNode(int number) {
            return liesIn(number, 0, nodes - 1);
        }

        private boolean areTwoNodes(int a, int b) {
            return isNode(a) && isNode(b) && a != b;
        }

        private boolean isArc(int number) {
            return liesIn(number, 0, arcs - 1);
        }

        private int addNode() {
            if (nodes >= MAX_NODES) {
                return FULL;
            }
            nodes++;
            return nodes - 1;
        }

        /** The caller has looked at the numbers. */
        private int addArc(int start, int end, int first, int other) {
            if (arcs >= MAX_ARCS) {
                return FULL;
            }
            int arc = arcs;
            from[arc] = start;
            to[arc] = end;
            weight[arc] = first;
            second[arc] = other;
            isShut[arc] = false;
            leaving[start][leavingSize[start]] = arc;
            leavingSize[start]++;
            arcs++;
            return arc;
        }

        private int shutArcs() {
            int found = 0;
            for (int arc = 0; arc < arcs; arc++) {
                if (isShut[arc]) {
                    found++;
                }
            }
            return found;
        }

        private int secondOf(long path) {
            int total = 0;
            for (int i = 0; i < PathCode.lengthIn(path); i++) {
                int arc = PathCode.arcIn(path, i);
                if (isArc(arc)) {
                    total += second[arc];
                }
            }
            return total;
        }
    }

    /**
     * A PATH in one long: its WEIGHT, then how many ARCS, then the ARCS, the first one highest. So THE ORDER of PATHS
     * is that of the longs.
     */
    private static final class PathCode {
        private static final int ARC_BITS = 5;
        private static final int ARC_MASK = 31;
        private static final int LENGTH_SHIFT = ARC_BITS * MAX_STEPS;
        private static final int LENGTH_MASK = 7;
        private static final int WEIGHT_SHIFT = LENGTH_SHIFT + 3;

        private static long head(int weight, int length) {
            return ((long) weight << WEIGHT_SHIFT) | ((long) length << LENGTH_SHIFT);
        }

        private static long arcAt(int arc, int i) {
            return (long) arc << shiftOf(i);
        }

        private static int weightIn(long path) {
            return (int) (path >> WEIGHT_SHIFT);
        }

        private static int lengthIn(long path) {
            return (int) (path >> LENGTH_SHIFT) & LENGTH_MASK;
        }

        private static int arcIn(long path, int i) {
            return (int) (path >> shiftOf(i)) & ARC_MASK;
        }

        private static int shiftOf(int i) {
            return ARC_BITS * (MAX_STEPS - 1 - i);
        }
    }

    /** PATHS of which the first one in THE ORDER can be taken out: a heap, the least at index 0. */
    private static final class PathHeap {
        private final long[] paths = new long[MAX_PATHS];
        private int size;

        private void empty() {
            size = 0;
        }

        private void add(long path) {
            if (size >= MAX_PATHS) {
                return;
            }
            int at = size;
            size++;
            while (at > 0 && paths[(at - 1) / 2] > path) {
                paths[at] = paths[(at - 1) / 2];
                at = (at - 1) / 2;
            }
            paths[at] = path;
        }

        private long takeFirst() {
            if (size <= 0) {
                return NONE;
            }
            long first = paths[0];
            size--;
            sinkFromTop(paths[size]);
            return first;
        }

        private void sinkFromTop(long path) {
            int at = 0;
            for (int left = 1; left < size; left = 2 * at + 1) {
                int lesser = left + 1 < size && paths[left + 1] < paths[left] ? left + 1 : left;
                if (paths[lesser] >= path) {
                    break;
                }
                paths[at] = paths[lesser];
                at = lesser;
            }
            paths[at] = path;
        }
    }

    /** Puts every PATH between two NODES into a heap. */
    private static final class PathFinder {
        private final Graph graph;
        private final PathHeap heap;
        private final boolean[] been = new boolean[MAX_NODES];
        private final int[] chosen = new int[MAX_STEPS];
        private int goal;

        private PathFinder(Graph graph, PathHeap heap) {
            this.graph = graph;
            this.heap = heap;
        }

        private void findAll(int a, int b) {
            heap.empty();
            goal = b;
            walkOn(this, a, 0);
        }

        /** As depth grows with each NODE that has been come to, it ends at MAX_STEPS at the latest. */
        private static void walkOn(PathFinder f, int at, int depth) {
            if (at == f.goal) {
                f.heap.add(f.code(depth));
                return;
            }
            if (depth >= MAX_STEPS) {
                return;
            }
            f.been[at] = true;
            for (int i = 0; i < f.graph.leavingSize[at]; i++) {
                int arc = f.graph.leaving[at][i];
                int to = f.graph.to[arc];
                if (!f.graph.isShut[arc] && !f.been[to]) {
                    f.chosen[depth] = arc;
                    walkOn(f, to, depth + 1);
                }
            }
            f.been[at] = false;
        }

        private long code(int length) {
            int weight = 0;
            long arcs = 0;
            for (int i = 0; i < length; i++) {
                weight += graph.weight[chosen[i]];
                arcs |= PathCode.arcAt(chosen[i], i);
            }
            return PathCode.head(weight, length) | arcs;
        }
    }

    /** The PATH that was TOLD last, as it was then; its length is 0 if none was. */
    private static final class ToldPath {
        private final int[] steps = new int[MAX_STEPS];
        private int length;
        private int weight;
        private int second;

        private void empty() {
            length = 0;
        }

        private int tell(Graph graph, long path) {
            length = PathCode.lengthIn(path);
            weight = PathCode.weightIn(path);
            second = graph.secondOf(path);
            for (int i = 0; i < length; i++) {
                steps[i] = PathCode.arcIn(path, i);
            }
            return length;
        }
    }

    /** The PAIRS that are BEST among those offered, which come by rising WEIGHT. */
    private static final class BestPairs {
        private final int[] weights = new int[MAX_PATHS];
        private final int[] seconds = new int[MAX_PATHS];
        private int size;

        private void empty() {
            size = 0;
        }

        private void offer(int weight, int second) {
            if (size > 0 && seconds[size - 1] <= second) {
                return;
            }
            // PATHS of one WEIGHT don't come by rising SECOND: a later one may better the one before.
            if (size > 0 && weights[size - 1] == weight) {
                size--;
            }
            if (size < MAX_PATHS) {
                weights[size] = weight;
                seconds[size] = second;
                size++;
            }
        }
    }

    /**
     * A flow of least WEIGHT that grows by one PATH at a time. Each NODE is split in two, with an edge between them
     * that lets through as many PATHS as may share the NODE; edges e and e ^ 1 are one edge and its way back. As no
     * WEIGHT is below 0, a flow of least WEIGHT is as good as the PATHS that it falls into.
     */
    private static final class Flow {
        private static final int MAX_PLACES = 2 * MAX_NODES;
        private static final int MAX_EDGES = 2 * (MAX_ARCS + MAX_NODES);
        private static final int FAR = 1000000;

        private final Graph graph;
        private final int[] tail = new int[MAX_EDGES];
        private final int[] head = new int[MAX_EDGES];
        private final int[] cost = new int[MAX_EDGES];
        private final int[] room = new int[MAX_EDGES];
        private final int[] distance = new int[MAX_PLACES];
        private final int[] lastEdge = new int[MAX_PLACES];
        private int edges;
        private int source;
        private int goal;

        private Flow(Graph graph) {
            this.graph = graph;
        }

        private static int entry(int node) {
            return 2 * node;
        }

        private static int exit(int node) {
            return 2 * node + 1;
        }

        private void prepare(int a, int b, boolean byNodes) {
            edges = 0;
            source = exit(a);
            goal = entry(b);
            for (int arc = 0; arc < graph.arcs; arc++) {
                if (!graph.isShut[arc]) {
                    addEdge(exit(graph.from[arc]), entry(graph.to[arc]), graph.weight[arc], 1);
                }
            }
            // a and b get no edge between their halves, as no PATH goes on through them.
            for (int node = 0; node < graph.nodes; node++) {
                if (node != a && node != b) {
                    addEdge(entry(node), exit(node), 0, byNodes ? 1 : MAX_ARCS);
                }
            }
        }

        private void addEdge(int start, int end, int price, int capacity) {
            if (edges + 2 > MAX_EDGES) {
                return;
            }
            setEdge(edges, start, end, price, capacity);
            setEdge(edges + 1, end, start, -price, 0);
            edges += 2;
        }

        private void setEdge(int edge, int start, int end, int price, int capacity) {
            tail[edge] = start;
            head[edge] = end;
            cost[edge] = price;
            room[edge] = capacity;
        }

        /** What one PATH more adds to the least WEIGHT, or NONE if there is no room for it. */
        private int addPath() {
            measure();
            if (distance[goal] >= FAR) {
                return NONE;
            }
            int at = goal;
            for (int i = 0; i < MAX_PLACES && at != source; i++) {
                int edge = lastEdge[at];
                room[edge]--;
                room[edge ^ 1]++;
                at = tail[edge];
            }
            return distance[goal];
        }

        /** Ways back cost less than 0, so each edge is tried again in as many rounds as a way may have edges. */
        private void measure() {
            Arrays.fill(distance, FAR);
            distance[source] = 0;
            boolean changed = true;
            for (int round = 0; round < MAX_PLACES && changed; round++) {
                changed = false;
                for (int edge = 0; edge < edges; edge++) {
                    changed |= tryEdge(edge);
                }
            }
        }

        private boolean tryEdge(int edge) {
            int start = tail[edge];
            int end = head[edge];
            if (room[edge] <= 0 || distance[start] >= FAR || distance[start] + cost[edge] >= distance[end]) {
                return false;
            }
            distance[end] = distance[start] + cost[edge];
            lastEdge[end] = edge;
            return true;
        }
    }
}
