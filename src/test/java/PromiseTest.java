/** Each promise worked by hand: ordinary inputs, the edges that the document names, and wrong inputs. */
public final class PromiseTest {
    private static final int NONE = Graphs.NONE, BAD = Graphs.BAD, FULL = Graphs.FULL;

    public static void main(String[] args) {
        newObject();
        clear();
        node();
        arc();
        change();
        shut();
        next();
        nextInTheOrder();
        nextOfMany();
        count();
        apart();
        apartTakesAnotherWay();
        most();
        within();
        pairs();
        pairsOfMany();
        pair();
        step();
        sum();
        told();
        of();
        refusalsChangeNothing();
        Check.end();
    }

    private static void due(String call, long got, long want) {
        Check.due(call, got, want);
    }

    private static void newObject() {
        Graphs.isAsNew("new", new NextPaths());
        NextPaths first = Graphs.diamond();
        Graphs.isAsNew("new beside another one", new NextPaths());
        due("the other one", first.of(1), 6);
    }

    private static void clear() {
        due("clear() of a new one", new NextPaths().clear(), 0);
        NextPaths x = Graphs.diamond();
        x.shut(5, true);
        x.next(0, 3, 0);
        x.pairs(0, 3);
        due("clear()", x.clear(), 6);
        Graphs.isAsNew("cleared", x);
        due("clear() again", x.clear(), 0);
        due("node() after clear()", x.node(), 0);
        due("node() after clear()", x.node(), 1);
        for (int i = 0; i < 6; i++) {
            due("arc after clear()", x.arc(0, 1, i, 0), i);
        }
        due("of(2): an ARC that was SHUT before", x.of(2), 0);
        due("count(0, 1) after clear()", x.count(0, 1), 6);
    }

    private static void node() {
        NextPaths x = new NextPaths();
        for (int i = 0; i < 8; i++) {
            due("node()", x.node(), i);
        }
        due("node() beyond 8", x.node(), FULL);
        due("node() beyond 8 again", x.node(), FULL);
        due("of(0)", x.of(0), 8);
        due("arc(7, 0, ..)", x.arc(7, 0, 0, 0), 0);
        due("arc(8, 0, ..)", x.arc(8, 0, 0, 0), BAD);
    }

    private static void arc() {
        NextPaths x = Graphs.withNodes(3);
        due("arc(0, 1, 0, 0)", x.arc(0, 1, 0, 0), 0);
        due("arc(0, 1, 1000, 1000)", x.arc(0, 1, 1000, 1000), 1);
        due("arc(2, 1, 3, 4)", x.arc(2, 1, 3, 4), 2);
        for (int number : Graphs.FAR_OUT) {
            due("arc, from", x.arc(number, 1, 0, 0), BAD);
            due("arc, to", x.arc(0, number, 0, 0), BAD);
            due("arc, weight", x.arc(0, 1, number, 0), BAD);
            due("arc, second", x.arc(0, 1, 0, number), BAD);
        }
        due("arc(3, 1, 0, 0)", x.arc(3, 1, 0, 0), BAD);
        due("arc(1, 3, 0, 0)", x.arc(1, 3, 0, 0), BAD);
        due("arc(1, 1, 0, 0)", x.arc(1, 1, 0, 0), BAD);
        due("arc(0, 1, 1001, 0)", x.arc(0, 1, 1001, 0), BAD);
        due("arc(0, 1, 0, 1001)", x.arc(0, 1, 0, 1001), BAD);
        due("of(1)", x.of(1), 3);
        for (int i = 3; i < 20; i++) {
            due("arc", x.arc(0, 2, 1, 1), i);
        }
        due("arc beyond 20", x.arc(0, 2, 1, 1), FULL);
        due("arc beyond 20 that is BAD too", x.arc(0, 0, 1, 1), BAD);
        due("arc beyond 20 that is BAD too", x.arc(0, 2, 1, 1001), BAD);
        due("of(1)", x.of(1), 20);
    }

    private static void change() {
        NextPaths x = Graphs.diamond();
        due("change(4, 1000, 0)", x.change(4, 1000, 0), 4);
        due("change(4, 0, 1000)", x.change(4, 0, 1000), 1000);
        due("told(4, 2)", x.told(4, 2), 0);
        due("told(4, 3)", x.told(4, 3), 1000);
        for (int number : Graphs.FAR_OUT) {
            due("change, arc", x.change(number, 0, 0), BAD);
            due("change, weight", x.change(0, number, 0), BAD);
            due("change, second", x.change(0, 0, number), BAD);
        }
        due("change(6, 0, 0)", x.change(6, 0, 0), BAD);
        due("change(0, 1001, 0)", x.change(0, 1001, 0), BAD);
        due("change(0, 0, 1001)", x.change(0, 0, 1001), BAD);
        due("told(0, 2)", x.told(0, 2), 2);
        due("told(0, 3)", x.told(0, 3), 5);
        x.shut(0, true);
        due("change of a SHUT one", x.change(0, 9, 8), 2);
        due("it stays SHUT", x.told(0, 4), 1);
    }

    private static void shut() {
        NextPaths x = Graphs.diamond();
        due("shut(4, false)", x.shut(4, false), 0);
        due("shut(4, true)", x.shut(4, true), 0);
        due("shut(4, true) again", x.shut(4, true), 1);
        due("count without ARC 4", x.count(0, 3), 3);
        due("most without ARC 4", x.most(0, 3, 0), 2);
        due("shut(4, false)", x.shut(4, false), 1);
        due("shut(4, false) again", x.shut(4, false), 0);
        due("count with ARC 4", x.count(0, 3), 4);
        due("shut(6, true)", x.shut(6, true), BAD);
        for (int number : Graphs.FAR_OUT) {
            due("shut, arc", x.shut(number, true), BAD);
        }
        due("of(2)", x.of(2), 0);
    }

    private static void next() {
        NextPaths x = Graphs.diamond();
        due("next(0, 3, 0)", x.next(0, 3, 0), 1);
        Graphs.isTold("next(0, 3, 0)", x, 4);
        due("next(0, 3, 3)", x.next(0, 3, 3), 3);
        Graphs.isTold("next(0, 3, 3)", x, 0, 5, 3);
        due("next(0, 3, 4)", x.next(0, 3, 4), NONE);
        due("next(3, 0, 0)", x.next(3, 0, 0), NONE);
        due("next(0, 3, 299)", x.next(0, 3, 299), NONE);
        Graphs.isTold("after NONE", x, 0, 5, 3);
        due("next(0, 3, 300)", x.next(0, 3, 300), BAD);
        due("next(0, 0, 0)", x.next(0, 0, 0), BAD);
        due("next(0, 4, 0)", x.next(0, 4, 0), BAD);
        due("next(4, 0, 0)", x.next(4, 0, 0), BAD);
        for (int number : Graphs.FAR_OUT) {
            due("next, a", x.next(number, 3, 0), BAD);
            due("next, b", x.next(0, number, 0), BAD);
            due("next, k", x.next(0, 3, number), BAD);
        }
        Graphs.isTold("after BAD", x, 0, 5, 3);
    }

    private static void nextInTheOrder() {
        NextPaths x = Graphs.withNodes(4);
        x.arc(2, 3, 1, 0);
        x.arc(1, 3, 1, 0);
        x.arc(0, 1, 1, 0);
        x.arc(0, 2, 1, 0);
        x.arc(0, 3, 2, 0);
        x.arc(1, 2, 0, 0);
        x.arc(0, 3, 2, 9);
        x.arc(0, 1, 1, 0);
        int[][] order = {{4}, {6}, {2, 1}, {3, 0}, {7, 1}, {2, 5, 0}, {7, 5, 0}};
        for (int k = 0; k < order.length; k++) {
            due("next of as much WEIGHT", x.next(0, 3, k), order[k].length);
            Graphs.isTold("PATH " + k + " of as much WEIGHT", x, order[k]);
        }
        due("next beyond them", x.next(0, 3, order.length), NONE);
        x.change(3, 0, 1000);
        due("less WEIGHT goes before fewer ARCS", x.next(0, 3, 0), 2);
        Graphs.isTold("less WEIGHT goes before fewer ARCS", x, 3, 0);
    }

    private static void nextOfMany() {
        NextPaths x = Graphs.ladder();
        for (int k = 0; k < 300; k++) {
            // An object is promised for 512 calls alone.
            x = k % 100 == 0 ? Graphs.ladder() : x;
            due("next(0, 7, " + k + ")", x.next(0, 7, k), 7);
            due("its WEIGHT", x.sum(0), k);
            due("its SECOND", x.sum(1), 1457 - k);
        }
        Graphs.isTold("299 is 102002 in threes, the last digit first", x, 2, 3, 6, 11, 12, 16, 18);
        due("next(0, 7, 300)", x.next(0, 7, 300), BAD);
    }

    private static void count() {
        due("count(0, 3)", Graphs.diamond().count(0, 3), 4);
        due("count(3, 0)", Graphs.diamond().count(3, 0), 0);
        due("count(1, 3)", Graphs.diamond().count(1, 3), 2);
        due("count of many", Graphs.ladder().count(0, 7), 1458);
        NextPaths x = Graphs.withNodes(5);
        for (int i = 0; i < 20; i++) {
            int to = i % 4;
            x.arc(i / 4, to >= i / 4 ? to + 1 : to, 1, 1);
        }
        due("count where each two NODES have an ARC", x.count(4, 0), 1 + 3 + 6 + 6);
        x.next(4, 0, 0);
        x.count(0, 4);
        Graphs.isTold("count tells none", x, 16);
        due("count(5, 0)", x.count(5, 0), BAD);
        due("count(0, 5)", x.count(0, 5), BAD);
        due("count(2, 2)", x.count(2, 2), BAD);
        for (int number : Graphs.FAR_OUT) {
            due("count, a", x.count(number, 0), BAD);
            due("count, b", x.count(0, number), BAD);
        }
    }

    private static void apart() {
        NextPaths x = Graphs.diamond();
        due("apart(0, 3, 1, 0)", x.apart(0, 3, 1, 0), 4);
        due("apart(0, 3, 2, 0)", x.apart(0, 3, 2, 0), 8);
        due("apart(0, 3, 3, 1)", x.apart(0, 3, 3, 1), 12);
        due("apart(0, 3, 4, 0)", x.apart(0, 3, 4, 0), NONE);
        due("apart(0, 3, 4, 1)", x.apart(0, 3, 4, 1), NONE);
        due("apart(3, 0, 1, 0)", x.apart(3, 0, 1, 0), NONE);
        due("apart(0, 3, 0, 0)", x.apart(0, 3, 0, 0), BAD);
        due("apart(0, 3, 6, 0)", x.apart(0, 3, 6, 0), BAD);
        due("apart(0, 3, 1, 2)", x.apart(0, 3, 1, 2), BAD);
        due("apart(0, 0, 1, 0)", x.apart(0, 0, 1, 0), BAD);
        due("apart(0, 4, 1, 0)", x.apart(0, 4, 1, 0), BAD);
        for (int number : Graphs.FAR_OUT) {
            due("apart, a", x.apart(number, 3, 1, 0), BAD);
            due("apart, b", x.apart(0, number, 1, 0), BAD);
            due("apart, n", x.apart(0, 3, number, 0), BAD);
            due("apart, by", x.apart(0, 3, 1, number), BAD);
        }
        due("apart tells none", x.sum(0), NONE);
        NextPaths y = Graphs.withNodes(2);
        for (int i = 0; i < 20; i++) {
            y.arc(0, 1, 1000 - i, 0);
        }
        due("apart(0, 1, 5, 1) of many", y.apart(0, 1, 5, 1), 981 + 982 + 983 + 984 + 985);
    }

    /** The first PATH, 0 1 2 3 of WEIGHT 3, is none of the two that are least together. */
    private static void apartTakesAnotherWay() {
        NextPaths x = Graphs.withNodes(5);
        x.arc(0, 1, 1, 0);
        x.arc(1, 2, 1, 0);
        x.arc(2, 3, 1, 0);
        x.arc(0, 2, 50, 0);
        x.arc(1, 3, 60, 0);
        due("one", x.apart(0, 3, 1, 0), 3);
        due("two by ARCS", x.apart(0, 3, 2, 0), 112);
        due("two by NODES", x.apart(0, 3, 2, 1), 112);
        x.arc(0, 4, 1, 0);
        x.arc(4, 1, 1, 0);
        due("two by ARCS through one NODE", x.apart(0, 3, 2, 0), 3 + 62);
        due("two by NODES do not go through one", x.apart(0, 3, 2, 1), 112);
        x.shut(3, true);
        due("two by ARCS without ARC 3", x.apart(0, 3, 2, 0), 65);
        due("two by NODES without ARC 3", x.apart(0, 3, 2, 1), NONE);
    }

    private static void most() {
        NextPaths x = Graphs.diamond();
        due("most(0, 3, 0)", x.most(0, 3, 0), 3);
        due("most(0, 3, 1)", x.most(0, 3, 1), 3);
        due("most(3, 0, 0)", x.most(3, 0, 0), 0);
        NextPaths y = Graphs.withNodes(3);
        for (int i = 0; i < 10; i++) {
            y.arc(0, 1, 1, 1);
            y.arc(1, 2, 1, 1);
        }
        due("most by ARCS through one NODE", y.most(0, 2, 0), 10);
        due("most by NODES through one NODE", y.most(0, 2, 1), 1);
        due("most by NODES beside each other", y.most(0, 1, 1), 10);
        NextPaths z = Graphs.withNodes(2);
        for (int i = 0; i < 20; i++) {
            z.arc(1, 0, 0, 0);
        }
        due("most of 20 ARCS by ARCS", z.most(1, 0, 0), 20);
        due("most of 20 ARCS by NODES", z.most(1, 0, 1), 20);
        due("most(0, 3, 2)", x.most(0, 3, 2), BAD);
        due("most(3, 3, 0)", x.most(3, 3, 0), BAD);
        due("most(0, 4, 0)", x.most(0, 4, 0), BAD);
        for (int number : Graphs.FAR_OUT) {
            due("most, a", x.most(number, 3, 0), BAD);
            due("most, b", x.most(0, number, 0), BAD);
            due("most, by", x.most(0, 3, number), BAD);
        }
        due("most tells none", x.sum(0), NONE);
    }

    private static void within() {
        NextPaths x = Graphs.diamond();
        due("within(0, 3, 4)", x.within(0, 3, 4), NONE);
        due("sum(0) after NONE", x.sum(0), NONE);
        due("within(0, 3, 5)", x.within(0, 3, 5), 3);
        Graphs.isTold("within(0, 3, 5)", x, 0, 5, 3);
        due("within(0, 3, 9)", x.within(0, 3, 9), 2);
        Graphs.isTold("within(0, 3, 9)", x, 2, 3);
        due("within(0, 3, 19)", x.within(0, 3, 19), 2);
        Graphs.isTold("within(0, 3, 19)", x, 0, 1);
        due("within(0, 3, 7000)", x.within(0, 3, 7000), 1);
        Graphs.isTold("within(0, 3, 7000)", x, 4);
        due("within(0, 3, 0)", x.within(0, 3, 0), NONE);
        due("within(3, 0, 7000)", x.within(3, 0, 7000), NONE);
        due("within(0, 3, 7001)", x.within(0, 3, 7001), BAD);
        due("within(3, 3, 0)", x.within(3, 3, 0), BAD);
        due("within(0, 4, 0)", x.within(0, 4, 0), BAD);
        for (int number : Graphs.FAR_OUT) {
            due("within, a", x.within(number, 3, 0), BAD);
            due("within, b", x.within(0, number, 0), BAD);
            due("within, limit", x.within(0, 3, number), BAD);
        }
        Graphs.isTold("after NONE and BAD", x, 4);
        due("within(1, 2, 0)", x.within(1, 2, 0), 1);
        Graphs.isTold("within(1, 2, 0)", x, 5);
        NextPaths y = Graphs.withNodes(8);
        for (int i = 0; i < 7; i++) {
            y.arc(i, i + 1, 1000, 1000);
        }
        due("within(0, 7, 6999)", y.within(0, 7, 6999), NONE);
        due("within(0, 7, 7000)", y.within(0, 7, 7000), 7);
        due("sum(0) of the heaviest PATH", y.sum(0), 7000);
        due("sum(1) of the heaviest PATH", y.sum(1), 7000);
    }

    private static void pairs() {
        NextPaths x = Graphs.diamond();
        due("pairs(0, 3)", x.pairs(0, 3), 2);
        Graphs.arePairs("pairs(0, 3)", x, 4, 9, 5, 5);
        for (int number : Graphs.FAR_OUT) {
            due("pairs, a", x.pairs(number, 3), BAD);
            due("pairs, b", x.pairs(0, number), BAD);
        }
        due("pairs(4, 0)", x.pairs(4, 0), BAD);
        due("pairs(0, 4)", x.pairs(0, 4), BAD);
        due("pairs(1, 1)", x.pairs(1, 1), BAD);
        Graphs.arePairs("after BAD", x, 4, 9, 5, 5);
        x.change(2, 1000, 0);
        x.shut(0, true);
        Graphs.arePairs("as they were found", x, 4, 9, 5, 5);
        due("pairs tells none", x.sum(0), NONE);
        due("pairs(3, 0)", x.pairs(3, 0), 0);
        Graphs.arePairs("none found", x);
        NextPaths y = Graphs.withNodes(2);
        int[] numbers = {5, 5, 5, 5, 4, 6, 6, 5, 5, 4, 4, 6, 7, 3, 9, 0, 9, 1, 3, 1000, 8, 3};
        for (int i = 0; i < numbers.length; i += 2) {
            y.arc(0, 1, numbers[i], numbers[i + 1]);
        }
        due("pairs of one WEIGHT or one SECOND", y.pairs(0, 1), 5);
        Graphs.arePairs("each once, by rising WEIGHT", y, 3, 1000, 4, 6, 5, 4, 7, 3, 9, 0);
    }

    private static void pairsOfMany() {
        NextPaths x = Graphs.ladder();
        due("pairs of many", x.pairs(0, 7), 1458);
        for (int i = 0; i < 1458; i += 31) {
            due("pair(" + i + ", 0) of many", x.pair(i, 0), i);
            due("pair(" + i + ", 1) of many", x.pair(i, 1), 1457 - i);
        }
        due("pair(1457, 0)", x.pair(1457, 0), 1457);
        due("pair(1458, 0)", x.pair(1458, 0), BAD);
    }

    private static void pair() {
        NextPaths x = Graphs.diamond();
        due("pair(0, 0) before pairs()", x.pair(0, 0), BAD);
        x.pairs(0, 3);
        due("pair(0, 2)", x.pair(0, 2), BAD);
        due("pair(2, 0)", x.pair(2, 0), BAD);
        for (int number : Graphs.FAR_OUT) {
            due("pair, i", x.pair(number, 0), BAD);
            due("pair, what", x.pair(0, number), BAD);
        }
        x.pairs(1, 2);
        Graphs.arePairs("those found last", x, 0, 0);
        x.clear();
        Graphs.arePairs("after clear()", x);
    }

    private static void step() {
        NextPaths x = Graphs.diamond();
        due("step(0) before one is TOLD", x.step(0), BAD);
        x.next(0, 3, 3);
        Graphs.isTold("a PATH of 3 ARCS", x, 0, 5, 3);
        x.next(0, 3, 0);
        Graphs.isTold("then one of 1 ARC", x, 4);
        due("step(1)", x.step(1), BAD);
        x.shut(4, true);
        x.count(0, 3);
        x.pairs(0, 3);
        Graphs.isTold("still TOLD when SHUT", x, 4);
        for (int number : Graphs.FAR_OUT) {
            due("step, i", x.step(number), BAD);
        }
        NextPaths y = Graphs.ladder();
        y.next(0, 7, 0);
        due("step(6) of 7", y.step(6), 18);
        due("step(7) of 7", y.step(7), BAD);
    }

    private static void sum() {
        NextPaths x = Graphs.diamond();
        due("sum(0) before one is TOLD", x.sum(0), NONE);
        due("sum(3) before one is TOLD", x.sum(3), BAD);
        due("sum(-1) before one is TOLD", x.sum(-1), BAD);
        x.next(0, 3, 3);
        x.change(5, 1000, 1000);
        due("sum(0) as it was then", x.sum(0), 5);
        due("sum(1) as it was then", x.sum(1), 5);
        due("sum(2)", x.sum(2), 3);
        due("sum(3)", x.sum(3), BAD);
        for (int number : Graphs.FAR_OUT) {
            due("sum, what", x.sum(number), BAD);
        }
        x.within(0, 3, 7000);
        due("sum(0) of the one TOLD last", x.sum(0), 4);
        due("sum(1) of the one TOLD last", x.sum(1), 20);
        due("sum(2) of the one TOLD last", x.sum(2), 1);
    }

    private static void told() {
        NextPaths x = Graphs.diamond();
        x.shut(2, true);
        int[] numbers = {0, 2, 1, 9, 1};
        for (int what = 0; what < 5; what++) {
            due("told(2, " + what + ")", x.told(2, what), numbers[what]);
        }
        due("told(3, 4)", x.told(3, 4), 0);
        due("told(2, 5)", x.told(2, 5), BAD);
        due("told(6, 0)", x.told(6, 0), BAD);
        for (int number : Graphs.FAR_OUT) {
            due("told, arc", x.told(number, 0), BAD);
            due("told, what", x.told(0, number), BAD);
        }
    }

    private static void of() {
        NextPaths x = Graphs.diamond();
        x.shut(0, true);
        x.shut(5, true);
        x.shut(5, true);
        due("of(0)", x.of(0), 4);
        due("of(1)", x.of(1), 6);
        due("of(2)", x.of(2), 2);
        x.shut(0, false);
        due("of(2) with one less", x.of(2), 1);
        due("of(3)", x.of(3), BAD);
        for (int number : Graphs.FAR_OUT) {
            due("of, what", x.of(number), BAD);
        }
    }

    private static void refusalsChangeNothing() {
        NextPaths x = Graphs.diamond();
        x.next(0, 3, 1);
        x.pairs(0, 3);
        x.arc(0, 0, 1, 1);
        x.change(0, 1001, 7);
        x.change(0, 7, 1001);
        x.shut(6, true);
        x.next(0, 3, 300);
        x.next(0, 3, 299);
        x.within(0, 3, 0);
        x.within(0, 3, 7001);
        x.pairs(0, 0);
        x.apart(0, 3, 6, 0);
        due("of(1)", x.of(1), 6);
        due("of(2)", x.of(2), 0);
        due("told(0, 2)", x.told(0, 2), 2);
        due("told(0, 3)", x.told(0, 3), 5);
        Graphs.isTold("after refusals", x, 0, 1);
        Graphs.arePairs("after refusals", x, 4, 9, 5, 5);
    }
}
