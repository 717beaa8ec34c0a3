import java.util.ArrayList;
import java.util.Comparator;
import java.util.HashMap;
import java.util.List;
import java.util.Map;

/** The document's words done as plainly as can be, to compare NextPaths with; nothing here is fast. */
final class Model {
    static final int NONE = -1, BAD = -2, FULL = -3;

    private record Path(List<Integer> arcs, int weight, int second) {
    }

    private record Pair(int weight, int second) {
    }

    /** What a PATH takes up beside its first ARC: one bit for each ARC or NODE. */
    private record Claim(long bits, int firstArc, int weight) {
    }

    private int nodes = 0;
    private final List<int[]> arcs = new ArrayList<>();
    private Path told = null;
    private List<Pair> found = new ArrayList<>();

    int clear() {
        int before = arcs.size();
        nodes = 0;
        arcs.clear();
        told = null;
        found = new ArrayList<>();
        return before;
    }

    int node() {
        return nodes == 8 ? FULL : nodes++;
    }

    int arc(int from, int to, int weight, int second) {
        if (bad(from, to) || weight < 0 || weight > 1000 || second < 0 || second > 1000) {
            return BAD;
        }
        if (arcs.size() == 20) {
            return FULL;
        }
        arcs.add(new int[] {from, to, weight, second, 0});
        return arcs.size() - 1;
    }

    int change(int arc, int weight, int second) {
        if (badArc(arc) || weight < 0 || weight > 1000 || second < 0 || second > 1000) {
            return BAD;
        }
        int before = arcs.get(arc)[2];
        arcs.get(arc)[2] = weight;
        arcs.get(arc)[3] = second;
        return before;
    }

    int shut(int arc, boolean is) {
        if (badArc(arc)) {
            return BAD;
        }
        int before = arcs.get(arc)[4];
        arcs.get(arc)[4] = is ? 1 : 0;
        return before;
    }

    int next(int a, int b, int k) {
        if (bad(a, b) || k < 0 || k > 299) {
            return BAD;
        }
        List<Path> all = ordered(a, b);
        return k < all.size() ? tell(all.get(k)) : NONE;
    }

    int count(int a, int b) {
        return bad(a, b) ? BAD : ordered(a, b).size();
    }

    int apart(int a, int b, int n, int by) {
        if (bad(a, b) || n < 1 || n > 5 || by < 0 || by > 1) {
            return BAD;
        }
        int least = leastOf(claims(a, b, by == 1), -1, n, 0, new HashMap<>());
        return least == Integer.MAX_VALUE ? NONE : least;
    }

    int most(int a, int b, int by) {
        if (bad(a, b) || by < 0 || by > 1) {
            return BAD;
        }
        Claim[] all = claims(a, b, by == 1);
        Map<Long, Integer> known = new HashMap<>();
        int n = 0;
        while (leastOf(all, -1, n + 1, 0, known) != Integer.MAX_VALUE) {
            n++;
        }
        return n;
    }

    int within(int a, int b, int limit) {
        if (bad(a, b) || limit < 0 || limit > 7000) {
            return BAD;
        }
        for (Path path : ordered(a, b)) {
            if (path.second() <= limit) {
                return tell(path);
            }
        }
        return NONE;
    }

    int pairs(int a, int b) {
        if (bad(a, b)) {
            return BAD;
        }
        List<Path> all = ordered(a, b);
        found = new ArrayList<>();
        for (Path path : all) {
            Pair pair = new Pair(path.weight(), path.second());
            if (isBest(pair, all) && !found.contains(pair)) {
                found.add(pair);
            }
        }
        found.sort(Comparator.comparingInt(Pair::weight));
        return found.size();
    }

    int pair(int i, int what) {
        if (i < 0 || i >= found.size() || what < 0 || what > 1) {
            return BAD;
        }
        return what == 0 ? found.get(i).weight() : found.get(i).second();
    }

    int step(int i) {
        return told == null || i < 0 || i >= told.arcs().size() ? BAD : told.arcs().get(i);
    }

    int sum(int what) {
        if (what < 0 || what > 2) {
            return BAD;
        }
        if (told == null) {
            return NONE;
        }
        return what == 0 ? told.weight() : what == 1 ? told.second() : told.arcs().size();
    }

    int told(int arc, int what) {
        return badArc(arc) || what < 0 || what > 4 ? BAD : arcs.get(arc)[what];
    }

    int of(int what) {
        if (what < 0 || what > 2) {
            return BAD;
        }
        int shut = 0;
        for (int[] arc : arcs) {
            shut += arc[4];
        }
        return what == 0 ? nodes : what == 1 ? arcs.size() : shut;
    }

    private boolean bad(int a, int b) {
        return a < 0 || a >= nodes || b < 0 || b >= nodes || a == b;
    }

    private boolean badArc(int arc) {
        return arc < 0 || arc >= arcs.size();
    }

    private int tell(Path path) {
        told = path;
        return path.arcs().size();
    }

    private List<Path> ordered(int a, int b) {
        List<Path> all = new ArrayList<>();
        walk(a, b, new ArrayList<>(), 1 << a, all);
        all.sort(Model::compare);
        return all;
    }

    private static int compare(Path x, Path y) {
        if (x.weight() != y.weight()) {
            return Integer.compare(x.weight(), y.weight());
        }
        if (x.arcs().size() != y.arcs().size()) {
            return Integer.compare(x.arcs().size(), y.arcs().size());
        }
        for (int i = 0; i < x.arcs().size(); i++) {
            int byArc = Integer.compare(x.arcs().get(i), y.arcs().get(i));
            if (byArc != 0) {
                return byArc;
            }
        }
        return 0;
    }

    private void walk(int at, int b, List<Integer> way, int been, List<Path> all) {
        if (at == b) {
            int weight = 0;
            int second = 0;
            for (int arc : way) {
                weight += arcs.get(arc)[2];
                second += arcs.get(arc)[3];
            }
            all.add(new Path(List.copyOf(way), weight, second));
            return;
        }
        // From the last ARC to the first, so that nothing is in THE ORDER by chance.
        for (int i = arcs.size() - 1; i >= 0; i--) {
            int[] arc = arcs.get(i);
            if (arc[4] == 0 && arc[0] == at && (been >> arc[1] & 1) == 0) {
                way.add(i);
                walk(arc[1], b, way, been | 1 << arc[1], all);
                way.remove(way.size() - 1);
            }
        }
    }

    private Claim[] claims(int a, int b, boolean byNodes) {
        List<Claim> all = new ArrayList<>();
        for (Path path : ordered(a, b)) {
            int firstArc = path.arcs().get(0);
            long bits = 0;
            for (int arc : path.arcs()) {
                int to = arcs.get(arc)[1];
                bits |= (arc == firstArc ? 0 : 1L << arc) | (byNodes && to != b ? 1L << 20 + to : 0);
            }
            all.add(new Claim(bits, firstArc, path.weight()));
        }
        return all.toArray(new Claim[0]);
    }

    /**
     * The least WEIGHT of n PATHS APART that begin with ARCS after one and use nothing in taken. A PATH has one ARC
     * from a alone, so PATHS tried by rising first ARC share none such, and each set of them is tried once. What has
     * been answered before is known.
     */
    private static int leastOf(Claim[] all, int after, int n, long taken, Map<Long, Integer> known) {
        if (n == 0) {
            return 0;
        }
        long question = taken | (long) (after + 1) << 30 | (long) n << 40;
        if (known.containsKey(question)) {
            return known.get(question);
        }
        int least = Integer.MAX_VALUE;
        for (Claim claim : all) {
            if (claim.firstArc() > after && (claim.bits() & taken) == 0) {
                int rest = leastOf(all, claim.firstArc(), n - 1, taken | claim.bits(), known);
                least = rest == Integer.MAX_VALUE ? least : Math.min(least, rest + claim.weight());
            }
        }
        known.put(question, least);
        return least;
    }

    private static boolean isBest(Pair pair, List<Path> all) {
        for (Path path : all) {
            boolean lessWeight = path.weight() < pair.weight() && path.second() <= pair.second();
            boolean lessSecond = path.second() < pair.second() && path.weight() <= pair.weight();
            if (lessWeight || lessSecond) {
                return false;
            }
        }
        return true;
    }
}
