import java.util.Arrays;

/** The boundary cases of promises 7 to 12: next, count, apart, most, within, pairs. */
public final class FindingTest {
    private static final int NONE = Graphs.NONE, BAD = Graphs.BAD;

    public static void main(String[] args) {
        Check.runSentences(FindingTest.class);
        Check.end();
    }

    private static void due(String call, long got, long want) {
        Check.due(call, got, want);
    }

    /** 3 * 4 + 1 ways from 0 to 2 and 4 * 5 + 3 from 2 to 4: 299 PATHS from 0 to 4. */
    private static NextPaths with299Paths() {
        NextPaths x = Graphs.row(1, 1, 3, 4, 4, 5);
        x.arc(0, 2, 2, 2);
        for (int i = 0; i < 3; i++) {
            x.arc(2, 4, 2, 2);
        }
        return x;
    }

    /** A call that a wrong NODE, or two that are the same, makes BAD. */
    private interface Between {
        int ask(NextPaths x, int a, int b);
    }

    private static void refusesWrongEnds(String name, Between call) {
        NextPaths x = Graphs.diamond();
        for (int number : Graphs.outOf(0, 3)) {
            due(name + ", a " + number, call.ask(x, number, 3), BAD);
            due(name + ", b " + number, call.ask(x, 0, number), BAD);
            due(name + ", a and b " + number, call.ask(x, number, number), BAD);
        }
        for (int node = 0; node < 4; node++) {
            due(name + ", a as b", call.ask(x, node, node), BAD);
        }
        due(name + " in a new one", call.ask(new NextPaths(), 0, 1), BAD);
        due(name + " with one NODE", call.ask(Graphs.withNodes(1), 0, 1), BAD);
        NextPaths full = Graphs.withNodes(8);
        due(name + ", b 8", call.ask(full, 0, 8), BAD);
        due(name + ", a 8", call.ask(full, 8, 0), BAD);
        due(name + ", a 7 and b 0, 1 if not BAD", call.ask(full, 7, 0) == BAD ? 0 : 1, 1);
        due(name + ", a 0 and b 7, 1 if not BAD", call.ask(full, 0, 7) == BAD ? 0 : 1, 1);
    }

    @Sentence(from = "Promise 7", words = "PATH k (0 .. 299), from 0,")
    static void pathsFrom0To299() {
        NextPaths x = Graphs.ladder();
        int[] some = {0, 1, 2, 298, 299};
        for (int k : some) {
            due("next(0, 7, " + k + ") of 1458", x.next(0, 7, k), 7);
            due("sum(0) of PATH " + k, x.sum(0), k);
        }
        due("next(0, 7, 300) of 1458", x.next(0, 7, 300), BAD);
        due("next(0, 7, -1)", x.next(0, 7, -1), BAD);
        NextPaths just300 = Graphs.row(1, 1, 3, 4, 5, 5);
        due("count(0, 4)", just300.count(0, 4), 300);
        due("next(0, 4, 299), the last one", just300.next(0, 4, 299), 4);
        Graphs.isTold("the last one", just300, 2, 6, 11, 16);
        due("next(0, 4, 300), beyond the bound", just300.next(0, 4, 300), BAD);
    }

    @Sentence(from = "Promise 7", words = "in THE ORDER,")
    static void next300InTheOrder() {
        NextPaths x = Graphs.row(7, 7, 3, 4, 5, 5);
        for (int k = 0; k < 300; k++) {
            due("next(0, 4, " + k + ")", x.next(0, 4, k), 4);
            if (k % 6 == 5) {
                due("ARC 0 of PATH " + k, x.step(0), k / 100);
                due("ARC 1 of PATH " + k, x.step(1), 3 + k / 25 % 4);
                due("ARC 2 of PATH " + k, x.step(2), 7 + k / 5 % 5);
            }
        }
    }

    @Sentence(from = "Promise 7", words = "is TOLD: how many ARCS it has.")
    static void nextTellsFromOneArcToSeven() {
        NextPaths x = Graphs.row(1, 1, 1, 1, 1, 1, 1, 1, 1);
        int[] row = {0, 1, 2, 3, 4, 5, 6};
        for (int b = 7; b >= 1; b--) {
            due("next(0, " + b + ", 0)", x.next(0, b, 0), b);
            due("sum(0)", x.sum(0), b);
            Graphs.isTold("to " + b, x, Arrays.copyOf(row, b));
        }
        due("next again tells the same", x.next(0, 1, 0), 1);
        Graphs.isTold("again", x, 0);
    }

    @Sentence(from = "Promise 7", words = "BAD;")
    static void badNexts() {
        refusesWrongEnds("next", (x, a, b) -> x.next(a, b, 0));
        NextPaths x = Graphs.ladder();
        for (int number : Graphs.outOf(0, 299)) {
            due("next, k " + number, x.next(0, 7, number), BAD);
        }
        Graphs.nothingIsTold("after BAD", x);
    }

    @Sentence(from = "Promise 7", words = "NONE: there are not so many")
    static void notSoManyPaths() {
        NextPaths x = with299Paths();
        due("count(0, 4)", x.count(0, 4), 299);
        due("next(0, 4, 298), the last one", x.next(0, 4, 298), 4);
        due("next(0, 4, 299)", x.next(0, 4, 299), NONE);
        NextPaths one = Graphs.side(1, 1);
        due("next(0, 1, 0) of one", one.next(0, 1, 0), 1);
        due("next(0, 1, 1) of one", one.next(0, 1, 1), NONE);
        due("next(1, 0, 0) of none", one.next(1, 0, 0), NONE);
        due("next without ARCS", Graphs.withNodes(2).next(0, 1, 0), NONE);
    }

    @Sentence(from = "Promise 7", words = "(what was TOLD stays).")
    static void whatNextToldStays() {
        NextPaths x = Graphs.diamond();
        x.next(0, 3, 4);
        Graphs.nothingIsTold("NONE before one is TOLD", x);
        x.next(0, 3, 3);
        due("next(0, 3, 4)", x.next(0, 3, 4), NONE);
        due("next(3, 0, 0)", x.next(3, 0, 0), NONE);
        Graphs.isTold("after NONE", x, 0, 5, 3);
        due("sum(0) after NONE", x.sum(0), 5);
        due("sum(1) after NONE", x.sum(1), 5);
        x.within(0, 3, 9);
        due("next(0, 3, 299)", x.next(0, 3, 299), NONE);
        Graphs.isTold("what within told stays", x, 2, 3);
    }

    @Sentence(from = "Promise 8", words = "How many PATHS there are.")
    static void countsFromNoneToTheMost() {
        due("count without ARCS", Graphs.withNodes(2).count(0, 1), 0);
        due("count of one", Graphs.side(0, 0).count(0, 1), 1);
        due("count the other way", Graphs.side(0, 0).count(1, 0), 0);
        due("count of those alike", Graphs.row(0, 0, 20).count(0, 1), 20);
        due("count of 299", with299Paths().count(0, 4), 299);
        due("count beyond 300", Graphs.row(1, 1, 4, 4, 4, 4, 4).count(0, 5), 1024);
        NextPaths most = Graphs.ladder();
        due("count of the most there can be", most.count(0, 7), 1458);
        most.shut(18, true);
        due("count of half of them", most.count(0, 7), 729);
        most.shut(19, true);
        due("count of none", most.count(0, 7), 0);
        Graphs.nothingIsTold("count tells none", most);
    }

    @Sentence(from = "Promise 8", words = "BAD.")
    static void badCounts() {
        refusesWrongEnds("count", (x, a, b) -> x.count(a, b));
    }

    @Sentence(from = "Promise 9", words = "The least WEIGHT that n (1 .. 5) PATHS")
    static void oneToFivePathsApart() {
        NextPaths x = Graphs.side(16, 0, 8, 0, 4, 0, 2, 0, 1, 0, 1000, 0);
        int[] least = {0, 1, 3, 7, 15, 31};
        for (int by = 0; by < 2; by++) {
            for (int n = 1; n <= 5; n++) {
                due("apart(0, 1, " + n + ", " + by + ")", x.apart(0, 1, n, by), least[n]);
            }
            due("apart, n 0", x.apart(0, 1, 0, by), BAD);
            due("apart, n 6, though there are six", x.apart(0, 1, 6, by), BAD);
        }
        Graphs.nothingIsTold("apart tells none", x);
    }

    @Sentence(from = "Promise 9", words = "that are APART (by = 0 by ARCS, 1 by NODES) have together.")
    static void theLeastAndTheGreatestTogether() {
        NextPaths five = Graphs.row(1000, 0, 5, 5, 5, 5);
        due("five of four ARCS of 1000", five.apart(0, 4, 5, 0), 20000);
        due("one of them by NODES", five.apart(0, 4, 1, 1), 4000);
        due("two of them by NODES", five.apart(0, 4, 2, 1), NONE);
        due("five of WEIGHT 0", Graphs.row(0, 1000, 5, 5, 5, 5).apart(0, 4, 5, 0), 0);
        NextPaths beside = Graphs.withNodes(8);
        for (int node = 1; node < 7; node++) {
            beside.arc(0, node, 1000, 0);
            beside.arc(node, 7, 1000 - node, 0);
        }
        due("five beside each other by NODES", beside.apart(0, 7, 5, 1), 10000 - 6 - 5 - 4 - 3 - 2);
        due("five beside each other by ARCS", beside.apart(0, 7, 5, 0), 10000 - 6 - 5 - 4 - 3 - 2);
        beside.change(1, 0, 0);
        due("another one is less now", beside.apart(0, 7, 5, 1), 9000 - 6 - 5 - 4 - 3);
    }

    /** The first PATH, 0 1 2 3 of WEIGHT 3, is none of the two that are least together. */
    @Sentence(from = "Promise 9", words = "The least WEIGHT that n (1 .. 5) PATHS")
    static void theFirstPathIsNoneOfTheLeast() {
        NextPaths x = Graphs.withNodes(4);
        x.arc(0, 1, 1, 0);
        x.arc(1, 2, 1, 0);
        x.arc(2, 3, 1, 0);
        x.arc(0, 2, 50, 0);
        x.arc(1, 3, 60, 0);
        due("one", x.apart(0, 3, 1, 1), 3);
        due("two by ARCS", x.apart(0, 3, 2, 0), 112);
        due("two by NODES", x.apart(0, 3, 2, 1), 112);
        x.arc(0, 3, 1000, 0);
        due("the first one and that beside it are more", x.apart(0, 3, 2, 0), 112);
        x.change(5, 108, 0);
        due("the first one and that beside it are less", x.apart(0, 3, 2, 1), 111);
        due("three", x.apart(0, 3, 3, 1), 220);
    }

    @Sentence(from = "Promise 9", words = "BAD;")
    static void badAparts() {
        refusesWrongEnds("apart", (x, a, b) -> x.apart(a, b, 1, 0));
        NextPaths x = Graphs.row(1, 1, 20);
        for (int number : Graphs.outOf(1, 5)) {
            due("apart, n " + number, x.apart(0, 1, number, 0), BAD);
        }
        for (int number : Graphs.outOf(0, 1)) {
            due("apart, by " + number, x.apart(0, 1, 1, number), BAD);
        }
    }

    @Sentence(from = "Promise 9", words = "NONE: there are not so many.")
    static void notSoManyApart() {
        for (int m = 0; m <= 5; m++) {
            NextPaths x = Graphs.row(2, 0, m);
            for (int n = 1; n <= 5; n++) {
                due(n + " by ARCS of " + m, x.apart(0, 1, n, 0), n <= m ? 2 * n : NONE);
                due(n + " by NODES of " + m, x.apart(0, 1, n, 1), n <= m ? 2 * n : NONE);
            }
        }
        NextPaths many = Graphs.ladder();
        due("two ARCS at the end: two", many.apart(0, 7, 2, 0), 1093);
        due("two ARCS at the end: three", many.apart(0, 7, 3, 0), NONE);
        due("one NODE between: two by NODES", many.apart(0, 7, 2, 1), NONE);
        due("against the ARCS", many.apart(7, 0, 1, 0), NONE);
    }

    @Sentence(from = "Promise 10", words = "How many PATHS can be APART at most.")
    static void mostFromNoneToTwenty() {
        for (int m = 0; m <= 20; m++) {
            NextPaths x = Graphs.row(m, 0, m);
            due("most by ARCS of " + m, x.most(0, 1, 0), m);
            due("most by NODES of " + m, x.most(0, 1, 1), m);
            due("most against the ARCS", x.most(1, 0, 0), 0);
        }
        NextPaths y = Graphs.row(0, 0, 10, 10);
        due("ten by ARCS through one NODE", y.most(0, 2, 0), 10);
        due("one by NODES through one NODE", y.most(0, 2, 1), 1);
        y.shut(19, true);
        due("nine by ARCS through one NODE", y.most(0, 2, 0), 9);
        NextPaths beside = Graphs.withNodes(8);
        for (int node = 1; node < 7; node++) {
            beside.arc(0, node, 1, 1);
            beside.arc(node, 7, 1, 1);
        }
        beside.arc(0, 7, 1, 1);
        beside.arc(0, 7, 1, 1);
        due("six NODES between and two beside them", beside.most(0, 7, 1), 8);
        Graphs.nothingIsTold("most tells none", beside);
    }

    @Sentence(from = "Promise 10", words = "BAD.")
    static void badMosts() {
        refusesWrongEnds("most", (x, a, b) -> x.most(a, b, 1));
        NextPaths x = Graphs.row(1, 1, 20);
        for (int number : Graphs.outOf(0, 1)) {
            due("most, by " + number, x.most(0, 1, number), BAD);
        }
    }

    @Sentence(from = "Promise 11", words = "The first PATH in THE ORDER whose SECOND is not above a limit (0 .. 7000)")
    static void limitsFrom0To7000() {
        NextPaths greatest = Graphs.row(0, 1000, 1, 1, 1, 1, 1, 1, 1);
        due("SECOND 7000, limit 6999", greatest.within(0, 7, 6999), NONE);
        due("SECOND 7000, limit 7000", greatest.within(0, 7, 7000), 7);
        due("SECOND 7000, limit 7001", greatest.within(0, 7, 7001), BAD);
        NextPaths least = Graphs.side(0, 1, 1000, 0);
        due("limit 0", least.within(0, 1, 0), 1);
        Graphs.isTold("SECOND 0 is not above 0", least, 1);
        due("limit 1", least.within(0, 1, 1), 1);
        Graphs.isTold("SECOND 1 is not above 1", least, 0);
        due("limit -1", least.within(0, 1, -1), BAD);
        NextPaths many = Graphs.ladder();
        due("the last PATH of all", many.within(0, 7, 0), 7);
        due("its WEIGHT", many.sum(0), 1457);
        due("a PATH beyond 300", many.within(0, 7, 1000), 7);
        due("its WEIGHT", many.sum(0), 457);
        due("the first PATH of all", many.within(0, 7, 1457), 7);
        due("its WEIGHT", many.sum(0), 0);
    }

    @Sentence(from = "Promise 11", words = "The first PATH in THE ORDER whose SECOND is not above a limit (0 .. 7000)")
    static void theFirstOneInTheOrder() {
        NextPaths x = Graphs.side(5, 3, 5, 2, 5, 2, 4, 9, 6, 0);
        int[] arcs = {4, 4, 1, 0, 0, 0, 0, 0, 0, 3};
        for (int limit = 0; limit < 10; limit++) {
            due("within(0, 1, " + limit + ")", x.within(0, 1, limit), 1);
            due("step(0) at limit " + limit, x.step(0), arcs[limit]);
        }
        NextPaths y = Graphs.withNodes(3);
        y.arc(0, 1, 2, 0);
        y.arc(1, 2, 2, 0);
        y.arc(0, 2, 4, 1);
        due("as much WEIGHT: two ARCS within 0", y.within(0, 2, 0), 2);
        due("as much WEIGHT: the one of fewer ARCS within 1", y.within(0, 2, 1), 1);
    }

    @Sentence(from = "Promise 11", words = "is TOLD: how many ARCS it has.")
    static void withinTellsFromOneArcToSeven() {
        NextPaths x = Graphs.row(1, 2, 1, 1, 1, 1, 1, 1, 1);
        int[] row = {0, 1, 2, 3, 4, 5, 6};
        for (int b = 7; b >= 1; b--) {
            due("within(0, " + b + ", " + 2 * b + ")", x.within(0, b, 2 * b), b);
            due("sum(1)", x.sum(1), 2 * b);
            Graphs.isTold("to " + b, x, Arrays.copyOf(row, b));
        }
    }

    @Sentence(from = "Promise 11", words = "BAD;")
    static void badWithins() {
        refusesWrongEnds("within", (x, a, b) -> x.within(a, b, 7000));
        NextPaths x = Graphs.row(0, 0, 20);
        for (int number : Graphs.outOf(0, 7000)) {
            due("within, limit " + number, x.within(0, 1, number), BAD);
        }
        Graphs.nothingIsTold("after BAD", x);
    }

    @Sentence(from = "Promise 11", words = "NONE")
    static void noPathWithinTheLimit() {
        NextPaths x = Graphs.side(0, 1, 0, 1000);
        due("all are above it", x.within(0, 1, 0), NONE);
        due("none at all", x.within(1, 0, 7000), NONE);
        due("one is not above it", x.within(0, 1, 1), 1);
        x.shut(0, true);
        due("that one is SHUT", x.within(0, 1, 1), NONE);
        due("just below", x.within(0, 1, 999), NONE);
        due("just as much", x.within(0, 1, 1000), 1);
        due("without ARCS", Graphs.withNodes(2).within(0, 1, 7000), NONE);
    }

    @Sentence(from = "Promise 11", words = "(what was TOLD stays).")
    static void whatWithinToldStays() {
        NextPaths x = Graphs.diamond();
        x.within(0, 3, 4);
        Graphs.nothingIsTold("NONE before one is TOLD", x);
        x.within(0, 3, 5);
        due("within(0, 3, 4)", x.within(0, 3, 4), NONE);
        due("within(3, 0, 7000)", x.within(3, 0, 7000), NONE);
        Graphs.isTold("after NONE", x, 0, 5, 3);
        due("sum(0) after NONE", x.sum(0), 5);
        due("sum(1) after NONE", x.sum(1), 5);
        x.next(0, 3, 2);
        due("within(0, 3, 0)", x.within(0, 3, 0), NONE);
        Graphs.isTold("what next told stays", x, 2, 3);
    }

    @Sentence(from = "Promise 12", words = "The PAIRS that are BEST, each once,")
    static void eachPairOnce() {
        due("of 20 alike", Graphs.row(3, 4, 20).pairs(0, 1), 1);
        NextPaths x = Graphs.side(1, 9, 1, 9, 2, 8, 2, 8, 2, 9, 3, 8, 9, 1, 9, 1);
        due("of two alike each", x.pairs(0, 1), 3);
        Graphs.arePairs("of two alike each", x, 1, 9, 2, 8, 9, 1);
        NextPaths over = Graphs.withNodes(3);
        over.arc(0, 1, 2, 3);
        over.arc(1, 2, 2, 3);
        over.arc(0, 2, 4, 6);
        due("alike, of one ARC and of two", over.pairs(0, 2), 1);
        Graphs.arePairs("alike, of one ARC and of two", over, 4, 6);
    }

    @Sentence(from = "Promise 12", words = "by rising WEIGHT,")
    static void byRisingWeight() {
        NextPaths x = Graphs.side(1000, 0, 10, 5, 999, 1, 9, 6, 0, 1000, 100, 4);
        due("pairs(0, 1)", x.pairs(0, 1), 6);
        Graphs.arePairs("by rising WEIGHT", x, 0, 1000, 9, 6, 10, 5, 100, 4, 999, 1, 1000, 0);
    }

    @Sentence(from = "Promise 12", words = "are found: how many.")
    static void fromNoneToTheMost() {
        NextPaths x = Graphs.side(2, 2);
        due("one", x.pairs(0, 1), 1);
        due("none", x.pairs(1, 0), 0);
        Graphs.arePairs("none are found then", x);
        NextPaths most = Graphs.ladder();
        due("the most there can be", most.pairs(0, 7), 1458);
        int[] some = {0, 1, 299, 300, 1023, 1024, 1456, 1457};
        for (int i : some) {
            due("pair(" + i + ", 0)", most.pair(i, 0), i);
            due("pair(" + i + ", 1)", most.pair(i, 1), 1457 - i);
        }
        due("pair(1458, 0)", most.pair(1458, 0), BAD);
        Graphs.nothingIsTold("pairs tells none", most);
    }

    @Sentence(from = "Promise 12", words = "BAD.")
    static void badPairs() {
        refusesWrongEnds("pairs", (x, a, b) -> x.pairs(a, b));
        NextPaths x = Graphs.diamond();
        x.pairs(0, 3);
        x.pairs(3, 3);
        x.pairs(4, 3);
        x.pairs(0, -1);
        Graphs.arePairs("after BAD", x, 4, 9, 5, 5);
    }
}
