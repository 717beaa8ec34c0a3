/** The boundary cases of promises 1 to 6: a new object, clear, node, arc, change, shut. */
public final class BuildingTest {
    private static final int NONE = Graphs.NONE, BAD = Graphs.BAD, FULL = Graphs.FULL;

    public static void main(String[] args) {
        Check.runSentences(BuildingTest.class);
        Check.end();
    }

    private static void due(String call, long got, long want) {
        Check.due(call, got, want);
    }

    @Sentence(from = "Promise 1", words = "No NODES, ARCS;")
    static void aNewOneIsEmpty() {
        NextPaths x = new NextPaths();
        due("of(0)", x.of(0), 0);
        due("of(1)", x.of(1), 0);
        due("of(2)", x.of(2), 0);
        due("told(0, 0)", x.told(0, 0), BAD);
        due("change(0, 0, 0)", x.change(0, 0, 0), BAD);
        due("shut(0, false)", x.shut(0, false), BAD);
        due("arc(0, 1, 0, 0)", x.arc(0, 1, 0, 0), BAD);
        due("next(0, 1, 0)", x.next(0, 1, 0), BAD);
        due("count(0, 1)", x.count(0, 1), BAD);
        due("apart(0, 1, 1, 0)", x.apart(0, 1, 1, 0), BAD);
        due("most(0, 1, 0)", x.most(0, 1, 0), BAD);
        due("within(0, 1, 0)", x.within(0, 1, 0), BAD);
        due("pairs(0, 1)", x.pairs(0, 1), BAD);
        due("node() the first", x.node(), 0);
        due("count(0, 1) with one NODE", x.count(0, 1), BAD);
        due("arc(0, 1, 0, 0) with one NODE", x.arc(0, 1, 0, 0), BAD);
        x.node();
        due("arc the first", x.arc(0, 1, 0, 0), 0);
    }

    @Sentence(from = "Promise 1", words = "No NODES, ARCS;")
    static void aNewOneHasNothingOfAnother() {
        NextPaths first = Graphs.diamond();
        first.shut(2, true);
        first.next(0, 3, 0);
        first.pairs(0, 3);
        Graphs.isAsNew("beside another one", new NextPaths());
        NextPaths second = Graphs.side(1, 1);
        due("next of the second", second.next(0, 1, 0), 1);
        second.pairs(0, 1);
        Graphs.isTold("the first one stays", first, 4);
        due("of(1) of the first", first.of(1), 6);
        due("pair(0, 0) of the first", first.pair(0, 0), 4);
    }

    @Sentence(from = "Promise 1", words = "nothing is TOLD.")
    static void ofANewOneNothingIsTold() {
        NextPaths x = new NextPaths();
        Graphs.nothingIsTold("new", x);
        due("step(-1)", x.step(-1), BAD);
        due("pair(0, 0)", x.pair(0, 0), BAD);
        NextPaths y = Graphs.diamond();
        Graphs.nothingIsTold("with NODES and ARCS", y);
        due("pair(0, 1)", y.pair(0, 1), BAD);
    }

    @Sentence(from = "Promise 2", words = "All as at first")
    static void clearedIsAsNew() {
        NextPaths x = Graphs.ladder();
        x.shut(0, true);
        x.shut(19, true);
        x.next(0, 7, 299);
        x.pairs(0, 7);
        x.clear();
        Graphs.isAsNew("cleared", x);
        due("pair(1, 1)", x.pair(1, 1), BAD);
        due("step(6)", x.step(6), BAD);
        due("told(19, 4)", x.told(19, 4), BAD);
        for (int i = 0; i < 8; i++) {
            due("node()", x.node(), i);
        }
        due("node() the ninth", x.node(), FULL);
        due("count(0, 7) without ARCS", x.count(0, 7), 0);
        due("most(0, 7, 0) without ARCS", x.most(0, 7, 0), 0);
        for (int i = 0; i < 20; i++) {
            due("arc(0, 7, 3, 4)", x.arc(0, 7, 3, 4), i);
            due("told(" + i + ", 4)", x.told(i, 4), 0);
        }
        due("arc the twenty-first", x.arc(0, 7, 3, 4), FULL);
        due("of(2)", x.of(2), 0);
        due("count(0, 7)", x.count(0, 7), 20);
        due("count(0, 1)", x.count(0, 1), 0);
        due("sum(0)", x.sum(0), NONE);
    }

    @Sentence(from = "Promise 2", words = "All as at first")
    static void clearedWithoutArcsIsAsNew() {
        NextPaths x = Graphs.withNodes(8);
        x.clear();
        Graphs.isAsNew("cleared with NODES alone", x);
        due("node()", x.node(), 0);
        x.clear();
        x.clear();
        Graphs.isAsNew("cleared twice", x);
    }

    @Sentence(from = "Promise 2", words = "how many ARCS there were.")
    static void clearTellsHowManyArcs() {
        NextPaths x = new NextPaths();
        due("clear() of a new one", x.clear(), 0);
        due("clear() with 8 NODES", Graphs.withNodes(8).clear(), 0);
        due("clear() with 1 ARC", Graphs.side(0, 0).clear(), 1);
        NextPaths full = Graphs.ladder();
        full.shut(3, true);
        full.arc(0, 1, 0, 0);
        due("clear() with 20 ARCS", full.clear(), 20);
        due("clear() again", full.clear(), 0);
    }

    @Sentence(from = "Promise 3", words = "A NODE more: its number.")
    static void nodesFromZeroToSeven() {
        NextPaths x = new NextPaths();
        for (int i = 0; i < 8; i++) {
            due("of(0) before", x.of(0), i);
            due("node()", x.node(), i);
            due("of(0) after", x.of(0), i + 1);
        }
        due("it has no ARCS", x.of(1), 0);
        due("arc(7, 6, 0, 0)", x.arc(7, 6, 0, 0), 0);
    }

    @Sentence(from = "Promise 3", words = "FULL.")
    static void theNinthNodeIsOneTooMany() {
        NextPaths x = Graphs.withNodes(8);
        for (int i = 0; i < 3; i++) {
            due("node() beyond 8", x.node(), FULL);
        }
        due("of(0)", x.of(0), 8);
        due("count(8, 0)", x.count(8, 0), BAD);
        x.clear();
        due("node() after clear()", x.node(), 0);
    }

    @Sentence(from = "Promise 4", words = "An ARC more: its number.")
    static void arcsFromZeroToNineteen() {
        NextPaths x = Graphs.withNodes(8);
        for (int i = 0; i < 20; i++) {
            due("of(1) before", x.of(1), i);
            due("arc", x.arc(i % 8, (i + 3) % 8, i * 50, 1000 - i * 50), i);
        }
        for (int i = 0; i < 20; i++) {
            due("told(" + i + ", 0)", x.told(i, 0), i % 8);
            due("told(" + i + ", 1)", x.told(i, 1), (i + 3) % 8);
            due("told(" + i + ", 2)", x.told(i, 2), i * 50);
            due("told(" + i + ", 3)", x.told(i, 3), 1000 - i * 50);
            due("told(" + i + ", 4): none is SHUT", x.told(i, 4), 0);
        }
        due("of(0)", x.of(0), 8);
        due("of(1)", x.of(1), 20);
    }

    @Sentence(from = "Promise 4", words = "BAD;")
    static void badArcs() {
        NextPaths x = Graphs.withNodes(3);
        for (int number : Graphs.outOf(0, 2)) {
            due("arc, from " + number, x.arc(number, 1, 0, 0), BAD);
            due("arc, to " + number, x.arc(1, number, 0, 0), BAD);
            due("arc, from and to " + number, x.arc(number, number, 0, 0), BAD);
        }
        for (int node = 0; node < 3; node++) {
            due("arc, from as to", x.arc(node, node, 0, 0), BAD);
        }
        for (int number : Graphs.outOf(0, 1000)) {
            due("arc, weight " + number, x.arc(0, 1, number, 0), BAD);
            due("arc, second " + number, x.arc(0, 1, 0, number), BAD);
        }
        due("of(1)", x.of(1), 0);
        due("arc, the numbers at their bounds", x.arc(0, 2, 0, 1000), 0);
        due("arc, the numbers at their bounds", x.arc(2, 0, 1000, 0), 1);
    }

    @Sentence(from = "Promise 4", words = "FULL.")
    static void theTwentyFirstArcIsOneTooMany() {
        NextPaths x = Graphs.row(9, 9, 20);
        for (int i = 0; i < 3; i++) {
            due("arc beyond 20", x.arc(1, 0, 0, 0), FULL);
        }
        x.shut(0, true);
        due("arc beyond 20, one of them SHUT", x.arc(1, 0, 0, 0), FULL);
        due("of(1)", x.of(1), 20);
        due("told(20, 0)", x.told(20, 0), BAD);
        due("count(1, 0)", x.count(1, 0), 0);
        x.clear();
        x.node();
        x.node();
        due("arc after clear()", x.arc(1, 0, 0, 0), 0);
    }

    @Sentence(from = "Promise 5", words = "WEIGHT and SECOND of an ARC become others")
    static void changeGivesOthers() {
        NextPaths x = Graphs.row(500, 500, 20);
        x.change(0, 0, 1000);
        x.change(19, 1000, 0);
        int[][] due = {{0, 0, 1000}, {1, 500, 500}, {18, 500, 500}, {19, 1000, 0}};
        for (int[] row : due) {
            due("told(" + row[0] + ", 2)", x.told(row[0], 2), row[1]);
            due("told(" + row[0] + ", 3)", x.told(row[0], 3), row[2]);
        }
        due("it goes from where it went", x.told(19, 0), 0);
        due("it goes to where it went", x.told(19, 1), 1);
        x.next(0, 1, 0);
        due("ARC 0 is first now", x.step(0), 0);
        x.within(0, 1, 0);
        due("ARC 19 alone has SECOND 0", x.step(0), 19);
        due("apart(0, 1, 1, 0)", x.apart(0, 1, 1, 0), 0);
    }

    @Sentence(from = "Promise 5", words = "WEIGHT and SECOND of an ARC become others")
    static void changeOfAShutArc() {
        NextPaths x = Graphs.side(5, 5, 6, 6);
        x.shut(0, true);
        due("change(0, 1, 2)", x.change(0, 1, 2), 5);
        due("it stays SHUT", x.told(0, 4), 1);
        due("count(0, 1)", x.count(0, 1), 1);
        x.shut(0, false);
        x.next(0, 1, 0);
        due("sum(0)", x.sum(0), 1);
        due("sum(1)", x.sum(1), 2);
    }

    @Sentence(from = "Promise 5", words = "what its WEIGHT was.")
    static void changeTellsTheWeightBefore() {
        NextPaths x = Graphs.side(0, 7, 1000, 8);
        due("change of WEIGHT 0", x.change(0, 1000, 9), 0);
        due("change of WEIGHT 1000", x.change(1, 0, 9), 1000);
        due("change again", x.change(0, 1000, 9), 1000);
        due("change to what it is", x.change(0, 1000, 9), 1000);
        due("change again", x.change(1, 3, 9), 0);
        x.change(1, 1001, 9);
        due("after a refused one", x.change(1, 4, 9), 3);
    }

    @Sentence(from = "Promise 5", words = "BAD.")
    static void badChanges() {
        NextPaths x = Graphs.side(5, 6, 7, 8, 9, 10);
        for (int number : Graphs.outOf(0, 2)) {
            due("change, arc " + number, x.change(number, 0, 0), BAD);
        }
        for (int number : Graphs.outOf(0, 1000)) {
            due("change, weight " + number, x.change(2, number, 0), BAD);
            due("change, second " + number, x.change(2, 0, number), BAD);
        }
        due("told(2, 2)", x.told(2, 2), 9);
        due("told(2, 3)", x.told(2, 3), 10);
        x.clear();
        due("change without ARCS", x.change(0, 0, 0), BAD);
    }

    @Sentence(from = "Promise 6", words = "An ARC is SHUT, or no more")
    static void shutAndNoMore() {
        NextPaths x = Graphs.row(1, 1, 20);
        x.shut(0, true);
        x.shut(19, true);
        int[] due = {1, 0, 0, 1};
        int[] arcs = {0, 1, 18, 19};
        for (int i = 0; i < 4; i++) {
            due("told(" + arcs[i] + ", 4)", x.told(arcs[i], 4), due[i]);
        }
        due("count(0, 1)", x.count(0, 1), 18);
        due("most(0, 1, 0)", x.most(0, 1, 0), 18);
        x.shut(0, false);
        due("told(0, 4)", x.told(0, 4), 0);
        due("told(19, 4)", x.told(19, 4), 1);
        due("count(0, 1)", x.count(0, 1), 19);
        x.next(0, 1, 0);
        due("ARC 0 is the first again", x.step(0), 0);
        due("of(1)", x.of(1), 20);
    }

    @Sentence(from = "Promise 6", words = "whether it was (1 or 0).")
    static void shutTellsWhetherItWas() {
        NextPaths x = Graphs.side(1, 1);
        due("shut(0, false) of one that is not", x.shut(0, false), 0);
        due("shut(0, true)", x.shut(0, true), 0);
        due("shut(0, true) of one that is", x.shut(0, true), 1);
        due("shut(0, false)", x.shut(0, false), 1);
        due("shut(0, false) again", x.shut(0, false), 0);
        due("told(0, 4)", x.told(0, 4), 0);
    }

    @Sentence(from = "Promise 6", words = "BAD.")
    static void badShuts() {
        NextPaths x = Graphs.side(5, 6, 7, 8, 9, 10);
        for (int number : Graphs.outOf(0, 2)) {
            due("shut(" + number + ", true)", x.shut(number, true), BAD);
            due("shut(" + number + ", false)", x.shut(number, false), BAD);
        }
        due("of(2)", x.of(2), 0);
        due("arc after that", x.arc(0, 1, 0, 0), 3);
        due("it is not SHUT", x.told(3, 4), 0);
        x.clear();
        due("shut without ARCS", x.shut(0, true), BAD);
    }
}
