import java.util.Random;

/** Runs of 512 calls, ordinary and wrong ones, each answered by NextPaths and by the Model alike. */
public final class CompareTest {
    private static final int RUNS = 4000;
    private static final int CALLS = 512;
    private static final int[] WRONG = {-1, -2, 8, 20, 21, 300, 1001, 7001, Integer.MAX_VALUE, Integer.MIN_VALUE};

    private final Random random;
    private final NextPaths x = new NextPaths();
    private final Model y = new Model();
    private final int nodes;
    private final int greatest;
    private final boolean mostlyOnwards;
    private int calls = 0;

    private CompareTest(long seed) {
        random = new Random(seed);
        nodes = 2 + random.nextInt(7);
        // Small WEIGHTS make PATHS that are alike, so that the rest of THE ORDER is asked for.
        greatest = new int[] {0, 1, 3, 10, 100, 1000}[random.nextInt(6)];
        // ARCS between neighbours make many PATHS from the first NODE to the last one.
        mostlyOnwards = random.nextInt(4) == 0;
    }

    public static void main(String[] args) {
        for (int run = 0; run < RUNS && Check.allAsDue(); run++) {
            new CompareTest(run).play(run);
        }
        Check.end();
    }

    /** What is answered after the 512th call is free. */
    private void due(String call, int got, int want) {
        calls++;
        if (calls <= CALLS) {
            Check.due(call, got, want);
        }
    }

    private void play(int run) {
        int grow = 15 + random.nextInt(40);
        while (calls < CALLS && Check.allAsDue()) {
            String at = "run " + run + ", call " + (calls + 1) + " or one after: ";
            if (random.nextInt(600) == 0) {
                due(at + "clear()", x.clear(), y.clear());
            } else if (y.of(0) < nodes) {
                due(at + "node()", x.node(), y.node());
            } else if (calls < grow) {
                addArc(at);
            } else if (random.nextInt(3) == 0) {
                alter(at);
            } else {
                ask(at);
            }
        }
    }

    private int number(int least, int most) {
        if (random.nextInt(60) == 0) {
            return WRONG[random.nextInt(WRONG.length)];
        }
        return least + random.nextInt(Math.max(1, most - least + 1));
    }

    private int place() {
        return number(0, nodes - 1);
    }

    private int anArc() {
        return number(0, Math.max(0, y.of(1) - 1));
    }

    private void addArc(String at) {
        int from = place();
        int to = mostlyOnwards && random.nextInt(8) > 0 ? from + 1 : place();
        int weight = number(0, greatest);
        int second = number(0, greatest);
        String call = at + "arc(" + from + ", " + to + ", " + weight + ", " + second + ")";
        due(call, x.arc(from, to, weight, second), y.arc(from, to, weight, second));
    }

    private void alter(String at) {
        int arc = anArc();
        switch (random.nextInt(4)) {
            case 0 -> addArc(at);
            case 1 -> {
                int weight = number(0, greatest);
                int second = number(0, greatest);
                String call = at + "change(" + arc + ", " + weight + ", " + second + ")";
                due(call, x.change(arc, weight, second), y.change(arc, weight, second));
            }
            default -> {
                boolean is = random.nextInt(4) == 0;
                due(at + "shut(" + arc + ", " + is + ")", x.shut(arc, is), y.shut(arc, is));
            }
        }
        read(at);
    }

    private void ask(String at) {
        boolean fromEndToEnd = mostlyOnwards && random.nextBoolean();
        int a = fromEndToEnd ? 0 : place();
        int b = fromEndToEnd ? nodes - 1 : place();
        int by = number(0, 1);
        String ends = "(" + a + ", " + b;
        switch (random.nextInt(7)) {
            case 0 -> {
                int k = number(0, 299);
                due(at + "next" + ends + ", " + k + ")", x.next(a, b, k), y.next(a, b, k));
            }
            case 1 -> {
                int k = number(0, Math.max(0, y.count(a, b)));
                due(at + "next" + ends + ", " + k + ")", x.next(a, b, k), y.next(a, b, k));
            }
            case 2 -> due(at + "count" + ends + ")", x.count(a, b), y.count(a, b));
            case 3 -> {
                int limit = number(0, Math.min(7000, 4 * greatest));
                due(at + "within" + ends + ", " + limit + ")", x.within(a, b, limit), y.within(a, b, limit));
            }
            case 4 -> due(at + "pairs" + ends + ")", x.pairs(a, b), y.pairs(a, b));
            default -> askApart(at, a, b, by);
        }
        read(at);
    }

    private void askApart(String at, int a, int b, int by) {
        int n = number(1, 5);
        String ends = "(" + a + ", " + b + ", ";
        due(at + "apart" + ends + n + ", " + by + ")", x.apart(a, b, n, by), y.apart(a, b, n, by));
        due(at + "most" + ends + by + ")", x.most(a, b, by), y.most(a, b, by));
    }

    /** Some of what can be read, by turns, so that not all calls are spent on it. */
    private void read(String at) {
        int arc = anArc();
        switch (random.nextInt(9)) {
            case 0 -> {
                for (int i = -1; i <= 7; i++) {
                    due(at + "step(" + i + ")", x.step(i), y.step(i));
                }
            }
            case 1 -> {
                for (int what = -1; what <= 3; what++) {
                    due(at + "sum(" + what + ")", x.sum(what), y.sum(what));
                }
            }
            case 2 -> {
                for (int what = -1; what <= 3; what++) {
                    due(at + "of(" + what + ")", x.of(what), y.of(what));
                }
            }
            case 3 -> {
                for (int what = -1; what <= 5; what++) {
                    due(at + "told(" + arc + ", " + what + ")", x.told(arc, what), y.told(arc, what));
                }
            }
            case 4 -> comparePairs(at);
            default -> {
                int i = random.nextInt(3);
                due(at + "step(" + i + ")", x.step(i), y.step(i));
            }
        }
    }

    private void comparePairs(String at) {
        int i = -1;
        do {
            for (int what = -1; what <= 2; what++) {
                due(at + "pair(" + i + ", " + what + ")", x.pair(i, what), y.pair(i, what));
            }
            i++;
        } while (y.pair(i - 1, 0) != Model.BAD || i == 0);
    }
}
