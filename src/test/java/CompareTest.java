import java.util.Random;

/**
 * Long runs of calls, ordinary and wrong ones, each answered by NextPaths and by the Model alike. With the readings
 * between the steps an object gets far more than the 512 calls that the document promises: NextPaths counts no calls,
 * so the test holds it to more than is due.
 */
public final class CompareTest {
    private static final int RUNS = 1500;
    private static final int STEPS = 512;
    private static final int[] WRONG = {-1, -2, 8, 20, 21, 300, 1001, 7001, Integer.MAX_VALUE, Integer.MIN_VALUE};

    private final Random random;
    private final NextPaths x = new NextPaths();
    private final Model y = new Model();
    private final int nodes;
    private final int greatest;

    private CompareTest(long seed) {
        random = new Random(seed);
        nodes = 2 + random.nextInt(7);
        // Small WEIGHTS make PATHS that are alike, so that the rest of THE ORDER is asked for.
        greatest = new int[] {0, 1, 3, 10, 100, 1000}[random.nextInt(6)];
    }

    public static void main(String[] args) {
        for (int run = 0; run < RUNS && Check.allAsDue(); run++) {
            new CompareTest(run).play(run);
        }
        Check.end();
    }

    private void play(int run) {
        int grow = 15 + random.nextInt(40);
        for (int i = 0; i < STEPS && Check.allAsDue(); i++) {
            String at = "run " + run + ", call " + i + ": ";
            if (random.nextInt(600) == 0) {
                Check.due(at + "clear()", x.clear(), y.clear());
            } else if (y.of(0) < nodes) {
                Check.due(at + "node()", x.node(), y.node());
            } else if (i < grow) {
                addArc(at);
            } else if (random.nextInt(3) == 0) {
                alter(at);
            } else {
                ask(at);
            }
        }
    }

    private int number(int least, int most) {
        if (random.nextInt(60) == 0) {
            return WRONG[random.nextInt(WRONG.length)];
        }
        return least + random.nextInt(Math.max(1, most - least + 1));
    }

    private int place() {
        return number(0, nodes - 1);
    }

    private int anArc() {
        return number(0, Math.max(0, y.of(1) - 1));
    }

    private void addArc(String at) {
        int from = place();
        int to = place();
        int weight = number(0, greatest);
        int second = number(0, greatest);
        String call = at + "arc(" + from + ", " + to + ", " + weight + ", " + second + ")";
        Check.due(call, x.arc(from, to, weight, second), y.arc(from, to, weight, second));
    }

    private void alter(String at) {
        int arc = anArc();
        switch (random.nextInt(4)) {
            case 0 -> addArc(at);
            case 1 -> {
                int weight = number(0, greatest);
                int second = number(0, greatest);
                String call = at + "change(" + arc + ", " + weight + ", " + second + ")";
                Check.due(call, x.change(arc, weight, second), y.change(arc, weight, second));
            }
            default -> {
                boolean is = random.nextInt(4) == 0;
                Check.due(at + "shut(" + arc + ", " + is + ")", x.shut(arc, is), y.shut(arc, is));
            }
        }
        compareTold(at);
    }

    private void ask(String at) {
        int a = place();
        int b = place();
        int by = number(0, 1);
        String ends = "(" + a + ", " + b;
        switch (random.nextInt(7)) {
            case 0 -> {
                int k = number(0, 299);
                Check.due(at + "next" + ends + ", " + k + ")", x.next(a, b, k), y.next(a, b, k));
            }
            case 1 -> {
                int k = number(0, Math.max(0, y.count(a, b)));
                Check.due(at + "next" + ends + ", " + k + ")", x.next(a, b, k), y.next(a, b, k));
            }
            case 2 -> Check.due(at + "count" + ends + ")", x.count(a, b), y.count(a, b));
            case 3 -> {
                int limit = number(0, Math.min(7000, 4 * greatest));
                Check.due(at + "within" + ends + ", " + limit + ")", x.within(a, b, limit), y.within(a, b, limit));
            }
            case 4 -> Check.due(at + "pairs" + ends + ")", x.pairs(a, b), y.pairs(a, b));
            default -> askApart(at, a, b, by);
        }
        compareTold(at);
        comparePairs(at);
    }

    private void askApart(String at, int a, int b, int by) {
        // The Model tries every set of PATHS, which is too many where there are many PATHS.
        if (y.count(a, b) > 60) {
            return;
        }
        int n = number(1, 5);
        String ends = "(" + a + ", " + b + ", ";
        Check.due(at + "apart" + ends + n + ", " + by + ")", x.apart(a, b, n, by), y.apart(a, b, n, by));
        Check.due(at + "most" + ends + by + ")", x.most(a, b, by), y.most(a, b, by));
    }

    private void compareTold(String at) {
        for (int i = -1; i <= 8; i++) {
            Check.due(at + "step(" + i + ")", x.step(i), y.step(i));
        }
        for (int what = -1; what <= 3; what++) {
            Check.due(at + "sum(" + what + ")", x.sum(what), y.sum(what));
            Check.due(at + "of(" + what + ")", x.of(what), y.of(what));
        }
        int arc = anArc();
        for (int what = -1; what <= 5; what++) {
            Check.due(at + "told(" + arc + ", " + what + ")", x.told(arc, what), y.told(arc, what));
        }
    }

    private void comparePairs(String at) {
        int i = -1;
        do {
            for (int what = -1; what <= 2; what++) {
                Check.due(at + "pair(" + i + ", " + what + ")", x.pair(i, what), y.pair(i, what));
            }
            i++;
        } while (y.pair(i - 1, 0) != Model.BAD || i == 0);
    }
}
