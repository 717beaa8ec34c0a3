import java.util.List;

/** The boundary cases in the document's Terms: the limits, PATHS, THE ORDER, APART, BEST, and REFUSALS. */
public final class TermsTest {
    private static final int NONE = Graphs.NONE, BAD = Graphs.BAD, FULL = Graphs.FULL;

    public static void main(String[] args) {
        Check.runSentences(TermsTest.class);
        Check.end();
    }

    private static void due(String call, long got, long want) {
        Check.due(call, got, want);
    }

    @Sentence(from = "What it is", words = "An object is used for at most 512 calls after it has been made")
    static void the512thCallIsAnswered() {
        NextPaths x = Graphs.ladder();
        int calls = 28;
        for (int k = 0; calls < 510; k++) {
            due("next(0, 7, " + k + "), call " + (calls + 1), x.next(0, 7, k % 300), 7);
            due("sum(0), call " + (calls + 2), x.sum(0), k % 300);
            calls += 2;
        }
        due("next(0, 7, 299), call 511", x.next(0, 7, 299), 7);
        due("sum(0), call 512", x.sum(0), 299);
    }

    @Sentence(from = "Terms", words = "NODES 0, 1, .., 8 at most")
    static void eightNodes() {
        NextPaths x = Graphs.withNodes(7);
        due("node() the eighth", x.node(), 7);
        due("node() the ninth", x.node(), FULL);
        due("of(0)", x.of(0), 8);
        due("arc(0, 7, 1, 1)", x.arc(0, 7, 1, 1), 0);
        due("arc(7, 0, 1, 1)", x.arc(7, 0, 1, 1), 1);
        due("count(7, 0)", x.count(7, 0), 1);
        due("arc(0, 8, 1, 1)", x.arc(0, 8, 1, 1), BAD);
        due("arc(8, 0, 1, 1)", x.arc(8, 0, 1, 1), BAD);
    }

    @Sentence(from = "Terms", words = "ARCS 0, 1, .., 20 at most")
    static void twentyArcs() {
        NextPaths x = Graphs.row(1, 1, 19);
        due("arc the twentieth", x.arc(0, 1, 0, 0), 19);
        due("arc the twenty-first", x.arc(0, 1, 0, 0), FULL);
        due("of(1)", x.of(1), 20);
        due("told(19, 1)", x.told(19, 1), 1);
        due("told(20, 1)", x.told(20, 1), BAD);
        due("count(0, 1)", x.count(0, 1), 20);
        due("next(0, 1, 0)", x.next(0, 1, 0), 1);
        due("step(0)", x.step(0), 19);
    }

    @Sentence(from = "Terms", words = "each from a NODE to another one")
    static void anArcGoesToAnotherNode() {
        NextPaths x = Graphs.withNodes(2);
        due("arc(0, 0, 1, 1)", x.arc(0, 0, 1, 1), BAD);
        due("arc(1, 1, 1, 1)", x.arc(1, 1, 1, 1), BAD);
        due("arc(0, 2, 1, 1)", x.arc(0, 2, 1, 1), BAD);
        due("arc(2, 0, 1, 1)", x.arc(2, 0, 1, 1), BAD);
        due("of(1)", x.of(1), 0);
        due("arc(0, 1, 1, 1)", x.arc(0, 1, 1, 1), 0);
        due("count(0, 1) along it", x.count(0, 1), 1);
        due("count(1, 0) against it", x.count(1, 0), 0);
    }

    @Sentence(from = "Terms", words = "with a WEIGHT and a SECOND, 0 .. 1000 each")
    static void weightsFrom0To1000() {
        NextPaths x = Graphs.withNodes(2);
        due("arc(0, 1, 0, 1000)", x.arc(0, 1, 0, 1000), 0);
        due("arc(0, 1, 1000, 0)", x.arc(0, 1, 1000, 0), 1);
        due("arc(0, 1, -1, 0)", x.arc(0, 1, -1, 0), BAD);
        due("arc(0, 1, 1001, 0)", x.arc(0, 1, 1001, 0), BAD);
        due("arc(0, 1, 0, -1)", x.arc(0, 1, 0, -1), BAD);
        due("arc(0, 1, 0, 1001)", x.arc(0, 1, 0, 1001), BAD);
        due("told(0, 2)", x.told(0, 2), 0);
        due("told(0, 3)", x.told(0, 3), 1000);
        due("change(0, 1000, 0)", x.change(0, 1000, 0), 0);
        due("change(1, 0, 1000)", x.change(1, 0, 1000), 1000);
        due("change(0, -1, 0)", x.change(0, -1, 0), BAD);
        due("change(0, 1001, 0)", x.change(0, 1001, 0), BAD);
        due("change(0, 0, -1)", x.change(0, 0, -1), BAD);
        due("change(0, 0, 1001)", x.change(0, 0, 1001), BAD);
    }

    @Sentence(from = "Terms", words = "several may go from one NODE to the same other one")
    static void allArcsFromOneNodeToOneOther() {
        NextPaths x = Graphs.withNodes(8);
        for (int i = 0; i < 20; i++) {
            due("arc(7, 6, 5, 5)", x.arc(7, 6, 5, 5), i);
        }
        due("count(7, 6)", x.count(7, 6), 20);
        due("most(7, 6, 0)", x.most(7, 6, 0), 20);
        due("count(6, 7)", x.count(6, 7), 0);
    }

    @Sentence(from = "Terms", words = "An ARC may be SHUT.")
    static void noneOneAndAllAreShut() {
        NextPaths x = Graphs.row(1, 1, 20);
        due("count(0, 1), none SHUT", x.count(0, 1), 20);
        x.shut(19, true);
        due("count(0, 1), one SHUT", x.count(0, 1), 19);
        for (int arc = 0; arc < 19; arc++) {
            x.shut(arc, true);
        }
        due("of(2), all SHUT", x.of(2), 20);
        due("of(1), all SHUT", x.of(1), 20);
        due("count(0, 1), all SHUT", x.count(0, 1), 0);
    }

    @Sentence(from = "Terms", words = "A PATH from a NODE a to another one b is a row of ARCS")
    static void aPathHasOneArcOrSeven() {
        NextPaths x = Graphs.row(1, 1, 1, 1, 1, 1, 1, 1, 1);
        due("next(0, 1, 0)", x.next(0, 1, 0), 1);
        Graphs.isTold("one ARC", x, 0);
        due("next(0, 7, 0)", x.next(0, 7, 0), 7);
        Graphs.isTold("seven ARCS", x, 0, 1, 2, 3, 4, 5, 6);
        due("next(7, 7, 0): no PATH of no ARCS", x.next(7, 7, 0), BAD);
    }

    @Sentence(from = "Terms", words = "none SHUT")
    static void noPathHasAShutArc() {
        NextPaths x = Graphs.withNodes(3);
        x.arc(0, 1, 1, 1);
        x.arc(1, 2, 1, 1);
        x.arc(0, 2, 5, 5);
        x.shut(1, true);
        due("next(0, 2, 0)", x.next(0, 2, 0), 1);
        due("step(0)", x.step(0), 2);
        due("next(0, 2, 1)", x.next(0, 2, 1), NONE);
        due("count(0, 2)", x.count(0, 2), 1);
        due("apart(0, 2, 1, 0)", x.apart(0, 2, 1, 0), 5);
        due("apart(0, 2, 2, 0)", x.apart(0, 2, 2, 0), NONE);
        due("apart(0, 2, 2, 1)", x.apart(0, 2, 2, 1), NONE);
        due("most(0, 2, 0)", x.most(0, 2, 0), 1);
        due("most(0, 2, 1)", x.most(0, 2, 1), 1);
        due("within(0, 2, 4)", x.within(0, 2, 4), NONE);
        due("within(0, 2, 5)", x.within(0, 2, 5), 1);
        due("pairs(0, 2)", x.pairs(0, 2), 1);
        due("pair(0, 0)", x.pair(0, 0), 5);
        x.shut(2, true);
        isWithoutPaths("all SHUT", x, 0, 2);
        x.shut(1, false);
        due("count(0, 2), ARC 1 no more SHUT", x.count(0, 2), 1);
        due("apart(0, 2, 1, 1), ARC 1 no more SHUT", x.apart(0, 2, 1, 1), 2);
    }

    private static void isWithoutPaths(String when, NextPaths x, int a, int b) {
        due(when + ": next", x.next(a, b, 0), NONE);
        due(when + ": count", x.count(a, b), 0);
        due(when + ": apart by ARCS", x.apart(a, b, 1, 0), NONE);
        due(when + ": apart by NODES", x.apart(a, b, 1, 1), NONE);
        due(when + ": most by ARCS", x.most(a, b, 0), 0);
        due(when + ": most by NODES", x.most(a, b, 1), 0);
        due(when + ": within", x.within(a, b, 7000), NONE);
        due(when + ": pairs", x.pairs(a, b), 0);
    }

    @Sentence(from = "Terms",
        words = "each from the NODE at which the one before ends, the first one from a, the last one to b")
    static void arcsOfAPathHangTogether() {
        NextPaths x = Graphs.withNodes(5);
        x.arc(0, 1, 1, 1);
        x.arc(2, 3, 1, 1);
        isWithoutPaths("a gap between 1 and 2", x, 0, 3);
        isWithoutPaths("no ARC from a", x, 4, 3);
        isWithoutPaths("no ARC to b", x, 0, 4);
        isWithoutPaths("against the ARC", x, 1, 0);
        x.arc(1, 2, 1, 1);
        due("next(0, 3, 0), the gap closed", x.next(0, 3, 0), 3);
        Graphs.isTold("the gap closed", x, 0, 2, 1);
        due("next(1, 3, 0) begins at a", x.next(1, 3, 0), 2);
        Graphs.isTold("begins at a", x, 2, 1);
        due("next(0, 2, 0) ends at b", x.next(0, 2, 0), 2);
        Graphs.isTold("ends at b", x, 0, 2);
    }

    /** With an ARC from each NODE to each other one. */
    @Sentence(from = "Terms",
        words = "each from the NODE at which the one before ends, the first one from a, the last one to b")
    static void arcsOfEachPathHangTogether() {
        NextPaths x = Graphs.withNodes(5);
        for (int i = 0; i < 20; i++) {
            int to = i % 4;
            x.arc(i / 4, to >= i / 4 ? to + 1 : to, i, i);
        }
        due("count(4, 1)", x.count(4, 1), 16);
        for (int k = 0; k < 16; k++) {
            int length = x.next(4, 1, k);
            int at = 4;
            for (int i = 0; i < length; i++) {
                due("PATH " + k + ", ARC " + i + " begins at", x.told(x.step(i), 0), at);
                at = x.told(x.step(i), 1);
            }
            due("PATH " + k + " ends at", at, 1);
        }
    }

    @Sentence(from = "Terms", words = "that comes to no NODE twice")
    static void aPathGoesInNoRound() {
        NextPaths x = Graphs.withNodes(4);
        x.arc(0, 1, 1, 1);
        x.arc(1, 2, 0, 0);
        x.arc(2, 1, 0, 0);
        x.arc(1, 3, 1, 1);
        due("count(0, 3): 0 1 3, not 0 1 2 1 3", x.count(0, 3), 1);
        due("next(0, 3, 1)", x.next(0, 3, 1), NONE);
        x.arc(3, 2, 0, 0);
        due("count(0, 3): none goes on from b", x.count(0, 3), 1);
        due("count(0, 2): 0 1 2, 0 1 3 2", x.count(0, 2), 2);
        x.arc(2, 3, 0, 0);
        due("count(0, 3): 0 1 3, 0 1 2 3", x.count(0, 3), 2);
        due("pairs(0, 3)", x.pairs(0, 3), 1);
        Graphs.arePairs("0 1 2 3 is the best", x, 1, 1);
    }

    @Sentence(from = "Terms", words = "(a is come to at the beginning)")
    static void aPathDoesNotComeBackToItsBeginning() {
        NextPaths x = Graphs.withNodes(3);
        x.arc(0, 1, 0, 0);
        x.arc(1, 0, 0, 0);
        x.arc(0, 2, 9, 9);
        due("count(0, 2): 0 2, not 0 1 0 2", x.count(0, 2), 1);
        due("next(0, 2, 0)", x.next(0, 2, 0), 1);
        due("next(0, 2, 1)", x.next(0, 2, 1), NONE);
        due("most(0, 2, 0)", x.most(0, 2, 0), 1);
        x.arc(0, 2, 9, 9);
        due("count(0, 2) with two ARCS", x.count(0, 2), 2);
        due("count(1, 2) over 0", x.count(1, 2), 2);
    }

    @Sentence(from = "Terms", words = "WEIGHT and SECOND of a PATH are those of its ARCS together.")
    static void theLeastAndTheGreatestSums() {
        NextPaths least = Graphs.row(0, 0, 1, 1, 1, 1, 1, 1, 1);
        least.next(0, 7, 0);
        due("sum(0) of seven ARCS of 0", least.sum(0), 0);
        due("sum(1) of seven ARCS of 0", least.sum(1), 0);
        NextPaths greatest = Graphs.row(1000, 1000, 1, 1, 1, 1, 1, 1, 1);
        greatest.next(0, 7, 0);
        due("sum(0) of seven ARCS of 1000", greatest.sum(0), 7000);
        due("sum(1) of seven ARCS of 1000", greatest.sum(1), 7000);
        due("pairs(0, 7)", greatest.pairs(0, 7), 1);
        Graphs.arePairs("seven ARCS of 1000", greatest, 7000, 7000);
        due("apart(0, 7, 1, 1)", greatest.apart(0, 7, 1, 1), 7000);
    }

    @Sentence(from = "Terms", words = "those of less WEIGHT first")
    static void lessWeightGoesFirst() {
        NextPaths x = Graphs.withNodes(8);
        x.arc(0, 7, 8, 0);
        for (int i = 0; i < 7; i++) {
            x.arc(i, i + 1, 1, 1000);
        }
        due("7 in seven ARCS before 8 in one", x.next(0, 7, 0), 7);
        due("then 8 in one", x.next(0, 7, 1), 1);
        x.change(0, 6, 1000);
        due("6 in one ARC before 7 in seven", x.next(0, 7, 0), 1);
        NextPaths y = Graphs.side(1000, 0, 999, 1000, 0, 500);
        int[] order = {2, 1, 0};
        for (int k = 0; k < 3; k++) {
            y.next(0, 1, k);
            due("step(0) of PATH " + k, y.step(0), order[k]);
        }
    }

    @Sentence(from = "Terms", words = "of as much those of fewer ARCS")
    static void fewerArcsGoFirst() {
        NextPaths x = Graphs.withNodes(8);
        for (int i = 0; i < 7; i++) {
            x.arc(i, i + 1, 1, 0);
        }
        x.arc(0, 6, 6, 9);
        x.arc(0, 7, 7, 1000);
        due("one ARC first, though it has the greatest number", x.next(0, 7, 0), 1);
        Graphs.isTold("one ARC", x, 8);
        due("then two", x.next(0, 7, 1), 2);
        Graphs.isTold("two ARCS", x, 7, 6);
        due("then seven", x.next(0, 7, 2), 7);
        due("no more", x.next(0, 7, 3), NONE);
    }

    @Sentence(from = "Terms", words = "of as many those with the lesser ARC where they first differ")
    static void theLesserArcGoesFirst() {
        NextPaths x = Graphs.row(3, 3, 20);
        for (int k = 0; k < 20; k++) {
            x.next(0, 1, k);
            due("step(0) of PATH " + k, x.step(0), k);
        }
        NextPaths y = Graphs.withNodes(3);
        y.arc(1, 2, 1, 0);
        y.arc(0, 1, 1, 9);
        y.arc(0, 1, 1, 5);
        y.arc(1, 2, 1, 1);
        int[][] order = {{1, 0}, {1, 3}, {2, 0}, {2, 3}};
        for (int k = 0; k < 4; k++) {
            due("next(0, 2, " + k + ")", y.next(0, 2, k), 2);
            Graphs.isTold("PATH " + k, y, order[k]);
        }
        NextPaths atTheEnd = Graphs.row(1, 1, 1, 1, 1, 1, 1, 1, 2);
        for (int k = 0; k < 2; k++) {
            atTheEnd.next(0, 7, k);
            due("the seventh ARC of PATH " + k, atTheEnd.step(6), 6 + k);
        }
    }

    @Sentence(from = "Terms", words = "PATHS from a to b are APART by ARCS, if no two of them have an ARC in common")
    static void apartByArcs() {
        NextPaths x = Graphs.row(1, 1, 2, 2);
        due("two with a NODE in common", x.most(0, 2, 0), 2);
        due("their WEIGHT", x.apart(0, 2, 2, 0), 4);
        x.shut(3, true);
        due("two with an ARC in common", x.most(0, 2, 0), 1);
        due("they are not APART", x.apart(0, 2, 2, 0), NONE);
    }

    @Sentence(from = "Terms", words = "by NODES, if no two have an ARC or a NODE but a and b in common")
    static void apartByNodes() {
        NextPaths x = Graphs.row(1, 1, 2, 2);
        due("two with a NODE in common", x.most(0, 2, 1), 1);
        due("they are not APART", x.apart(0, 2, 2, 1), NONE);
        due("a and b alone in common", x.most(0, 1, 1), 2);
        due("their WEIGHT", x.apart(0, 1, 2, 1), 2);
        x.shut(0, true);
        due("an ARC in common, no NODE but a and b", x.most(0, 1, 1), 1);
        due("it is one PATH alone", x.apart(0, 1, 2, 1), NONE);
        x.arc(0, 2, 7, 7);
        due("one over 1, one beside it", x.apart(0, 2, 2, 1), 9);
    }

    @Sentence(from = "Terms", words = "A PAIR (WEIGHT, SECOND) of a PATH from a to b is BEST, "
        + "if no PATH from a to b has one of both less, the other one not greater.")
    static void aPairIsBest() {
        bestAre("one", new int[] {5, 5}, 5, 5);
        bestAre("as much of both", new int[] {5, 5, 5, 5}, 5, 5);
        bestAre("less SECOND first", new int[] {5, 5, 5, 6}, 5, 5);
        bestAre("less SECOND last", new int[] {5, 6, 5, 5}, 5, 5);
        bestAre("less WEIGHT first", new int[] {5, 5, 6, 5}, 5, 5);
        bestAre("less WEIGHT last", new int[] {6, 5, 5, 5}, 5, 5);
        bestAre("less of both first", new int[] {4, 4, 5, 5}, 4, 4);
        bestAre("less of both last", new int[] {5, 5, 4, 4}, 4, 4);
        bestAre("less of one, greater of the other", new int[] {5, 6, 6, 5}, 5, 6, 6, 5);
        bestAre("the other way round", new int[] {6, 5, 5, 6}, 5, 6, 6, 5);
        bestAre("the bounds", new int[] {1000, 0, 0, 1000, 1000, 1000}, 0, 1000, 1000, 0);
        bestAre("0 of both", new int[] {0, 1, 0, 0, 1, 0}, 0, 0);
    }

    private static void bestAre(String when, int[] arcs, int... best) {
        NextPaths x = Graphs.side(arcs);
        due(when + ": pairs(0, 1)", x.pairs(0, 1), best.length / 2);
        Graphs.arePairs(when, x, best);
    }

    private interface Call {
        int on(NextPaths x, int[] numbers);
    }

    /** A call that is answered for the numbers between least and greatest, if two NODES are not the same. */
    private record Bounded(String name, Call call, int[] some, int[] least, int[] greatest) {
    }

    private static int[] row(int... numbers) {
        return numbers;
    }

    /** In a diamond, with a PATH of three ARCS TOLD and two PAIRS found. */
    private static List<Bounded> boundedCalls() {
        return List.of(
            new Bounded("arc", (x, n) -> x.arc(n[0], n[1], n[2], n[3]), row(1, 2, 5, 5), row(0, 0, 0, 0),
                row(3, 3, 1000, 1000)),
            new Bounded("change", (x, n) -> x.change(n[0], n[1], n[2]), row(1, 5, 5), row(0, 0, 0),
                row(5, 1000, 1000)),
            new Bounded("shut", (x, n) -> x.shut(n[0], false), row(1), row(0), row(5)),
            new Bounded("next", (x, n) -> x.next(n[0], n[1], n[2]), row(1, 2, 0), row(0, 0, 0), row(3, 3, 299)),
            new Bounded("count", (x, n) -> x.count(n[0], n[1]), row(1, 2), row(0, 0), row(3, 3)),
            new Bounded("apart", (x, n) -> x.apart(n[0], n[1], n[2], n[3]), row(1, 2, 1, 0), row(0, 0, 1, 0),
                row(3, 3, 5, 1)),
            new Bounded("most", (x, n) -> x.most(n[0], n[1], n[2]), row(1, 2, 0), row(0, 0, 0), row(3, 3, 1)),
            new Bounded("within", (x, n) -> x.within(n[0], n[1], n[2]), row(1, 2, 0), row(0, 0, 0),
                row(3, 3, 7000)),
            new Bounded("pairs", (x, n) -> x.pairs(n[0], n[1]), row(1, 2), row(0, 0), row(3, 3)),
            new Bounded("pair", (x, n) -> x.pair(n[0], n[1]), row(0, 0), row(0, 0), row(1, 1)),
            new Bounded("step", (x, n) -> x.step(n[0]), row(0), row(0), row(2)),
            new Bounded("sum", (x, n) -> x.sum(n[0]), row(0), row(0), row(2)),
            new Bounded("told", (x, n) -> x.told(n[0], n[1]), row(0, 0), row(0, 0), row(5, 4)),
            new Bounded("of", (x, n) -> x.of(n[0]), row(0), row(0), row(2)));
    }

    private static NextPaths readyDiamond() {
        NextPaths x = Graphs.diamond();
        x.next(0, 3, 3);
        x.pairs(0, 3);
        return x;
    }

    private static int answer(NextPaths x, Bounded bounded, int at, int number) {
        int[] numbers = bounded.some().clone();
        numbers[at] = number;
        return bounded.call().on(x, numbers);
    }

    @Sentence(from = "Terms", words = "REFUSALS are answers: BAD (a number is none, or out of its bounds;")
    static void eachNumberHasItsBounds() {
        for (Bounded bounded : boundedCalls()) {
            for (int at = 0; at < bounded.some().length; at++) {
                int least = bounded.least()[at];
                int greatest = bounded.greatest()[at];
                String place = bounded.name() + ", number " + at + " is ";
                NextPaths x = readyDiamond();
                for (int number : Graphs.outOf(least, greatest)) {
                    due(place + number, answer(x, bounded, at, number), BAD);
                }
                due(place + least + ", 1 if not BAD", answer(readyDiamond(), bounded, at, least) == BAD ? 0 : 1, 1);
                due(place + greatest + ", 1 if not BAD",
                    answer(readyDiamond(), bounded, at, greatest) == BAD ? 0 : 1, 1);
            }
        }
    }

    @Sentence(from = "Terms", words = "a and b are the same)")
    static void aAndBAreTheSame() {
        NextPaths x = Graphs.diamond();
        for (int node = 0; node < 4; node++) {
            due("next", x.next(node, node, 0), BAD);
            due("count", x.count(node, node), BAD);
            due("apart", x.apart(node, node, 1, 0), BAD);
            due("most", x.most(node, node, 1), BAD);
            due("within", x.within(node, node, 7000), BAD);
            due("pairs", x.pairs(node, node), BAD);
        }
    }

    @Sentence(from = "Terms", words = "first; then what a call names, in the order named.")
    static void badGoesFirst() {
        NextPaths x = Graphs.row(1, 1, 20);
        due("arc, FULL", x.arc(0, 1, 0, 0), FULL);
        due("arc, from wrong and FULL", x.arc(2, 1, 0, 0), BAD);
        due("arc, to wrong and FULL", x.arc(0, 2, 0, 0), BAD);
        due("arc, to as from and FULL", x.arc(1, 1, 0, 0), BAD);
        due("arc, weight wrong and FULL", x.arc(0, 1, 1001, 0), BAD);
        due("arc, second wrong and FULL", x.arc(0, 1, 0, -1), BAD);
        due("next, NONE", x.next(1, 0, 0), NONE);
        due("next, k wrong and NONE", x.next(1, 0, 300), BAD);
        due("next, a as b and NONE", x.next(1, 1, 299), BAD);
        due("apart, NONE", x.apart(1, 0, 5, 1), NONE);
        due("apart, n wrong and NONE", x.apart(1, 0, 6, 1), BAD);
        due("apart, by wrong and NONE", x.apart(1, 0, 5, 2), BAD);
        due("within, NONE", x.within(1, 0, 7000), NONE);
        due("within, limit wrong and NONE", x.within(1, 0, 7001), BAD);
        due("sum, NONE", x.sum(2), NONE);
        due("sum, what wrong and NONE", x.sum(3), BAD);
        due("sum, what below 0 and NONE", x.sum(-1), BAD);
    }

    private static void isUnchanged(String call, List<Integer> before, NextPaths x) {
        due(call + ", 1 if all stays", Graphs.allOf(x).equals(before) ? 1 : 0, 1);
    }

    @Sentence(from = "Terms", words = "What is refused changes nothing.")
    static void whatIsBadChangesNothing() {
        for (Bounded bounded : boundedCalls()) {
            for (int at = 0; at < bounded.some().length; at++) {
                NextPaths x = readyDiamond();
                x.shut(1, true);
                x.change(0, 7, 8);
                List<Integer> before = Graphs.allOf(x);
                for (int number : Graphs.outOf(bounded.least()[at], bounded.greatest()[at])) {
                    answer(x, bounded, at, number);
                }
                isUnchanged(bounded.name() + ", number " + at + " wrong", before, x);
            }
        }
        NextPaths x = readyDiamond();
        List<Integer> before = Graphs.allOf(x);
        x.shut(6, true);
        x.shut(-1, true);
        x.arc(2, 2, 0, 0);
        x.next(2, 2, 0);
        x.within(2, 2, 0);
        x.pairs(2, 2);
        isUnchanged("a as b", before, x);
        due("count(0, 3)", x.count(0, 3), 4);
    }

    @Sentence(from = "Terms", words = "What is refused changes nothing.")
    static void whatIsFullChangesNothing() {
        NextPaths x = Graphs.ladder();
        x.shut(4, true);
        x.next(0, 7, 9);
        x.pairs(0, 2);
        List<Integer> before = Graphs.allOf(x);
        due("node()", x.node(), FULL);
        due("arc(0, 7, 0, 0)", x.arc(0, 7, 0, 0), FULL);
        due("arc(7, 0, 1000, 999)", x.arc(7, 0, 1000, 999), FULL);
        isUnchanged("FULL", before, x);
        due("count(7, 0)", x.count(7, 0), 0);
        due("count(0, 7)", x.count(0, 7), 972);
    }

    @Sentence(from = "Terms", words = "What is refused changes nothing.")
    static void whatIsNoneChangesNothing() {
        NextPaths x = readyDiamond();
        x.shut(4, true);
        List<Integer> before = Graphs.allOf(x);
        due("next(0, 3, 3)", x.next(0, 3, 3), NONE);
        due("next(3, 0, 0)", x.next(3, 0, 0), NONE);
        due("apart(0, 3, 3, 0)", x.apart(0, 3, 3, 0), NONE);
        due("apart(0, 3, 5, 1)", x.apart(0, 3, 5, 1), NONE);
        due("within(0, 3, 4)", x.within(0, 3, 4), NONE);
        due("within(3, 0, 7000)", x.within(3, 0, 7000), NONE);
        isUnchanged("NONE", before, x);
        due("count(0, 3)", x.count(0, 3), 3);
    }
}
