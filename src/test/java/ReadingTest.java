/** The boundary cases of promises 13 to 17: pair, step, sum, told, of. */
public final class ReadingTest {
    private static final int NONE = Graphs.NONE, BAD = Graphs.BAD;

    public static void main(String[] args) {
        Check.runSentences(ReadingTest.class);
        Check.end();
    }

    private static void due(String call, long got, long want) {
        Check.due(call, got, want);
    }

    @Sentence(from = "Promise 13", words = "PAIR i of those that pairs() found last")
    static void thoseFoundLast() {
        NextPaths x = Graphs.side(1, 9, 2, 8, 3, 7);
        x.node();
        x.arc(1, 2, 50, 60);
        x.pairs(0, 1);
        Graphs.arePairs("three", x, 1, 9, 2, 8, 3, 7);
        x.pairs(1, 2);
        Graphs.arePairs("one, after three", x, 50, 60);
        x.pairs(0, 2);
        Graphs.arePairs("three again", x, 51, 69, 52, 68, 53, 67);
        x.change(0, 1000, 1000);
        x.shut(3, true);
        x.next(0, 1, 0);
        x.within(0, 1, 8);
        x.count(2, 0);
        x.apart(0, 1, 2, 0);
        x.most(0, 1, 1);
        x.pairs(0, 3);
        Graphs.arePairs("as they were found", x, 51, 69, 52, 68, 53, 67);
        x.pairs(2, 0);
        Graphs.arePairs("none, after three", x);
    }

    @Sentence(from = "Promise 13", words = "its WEIGHT (what = 0), SECOND (1).")
    static void weightAndSecondOfAPair() {
        NextPaths x = Graphs.row(1000, 0, 1, 1, 1, 1, 1, 1, 1);
        x.pairs(0, 7);
        due("pair(0, 0), the greatest", x.pair(0, 0), 7000);
        due("pair(0, 1), the least", x.pair(0, 1), 0);
        NextPaths y = Graphs.row(0, 1000, 1, 1, 1, 1, 1, 1, 1);
        y.pairs(0, 7);
        due("pair(0, 0), the least", y.pair(0, 0), 0);
        due("pair(0, 1), the greatest", y.pair(0, 1), 7000);
        due("pair(0, 2)", y.pair(0, 2), BAD);
        due("pair(0, -1)", y.pair(0, -1), BAD);
    }

    @Sentence(from = "Promise 13", words = "BAD: also none such.")
    static void badPairs() {
        NextPaths x = Graphs.diamond();
        due("pair(0, 0) before pairs()", x.pair(0, 0), BAD);
        due("pair(0, 1) before pairs()", x.pair(0, 1), BAD);
        due("pair(-1, 0) before pairs()", x.pair(-1, 0), BAD);
        x.pairs(0, 3);
        for (int number : Graphs.outOf(0, 1)) {
            due("pair(" + number + ", 0) of two", x.pair(number, 0), BAD);
            due("pair(" + number + ", 1) of two", x.pair(number, 1), BAD);
            due("pair(0, " + number + ")", x.pair(0, number), BAD);
            due("pair(" + number + ", " + number + ")", x.pair(number, number), BAD);
        }
        x.pairs(3, 0);
        due("pair(0, 0) after none were found", x.pair(0, 0), BAD);
        x.pairs(0, 3);
        x.clear();
        due("pair(0, 0) after clear()", x.pair(0, 0), BAD);
        due("pair(1, 1) after clear()", x.pair(1, 1), BAD);
    }

    @Sentence(from = "Promise 14", words = "ARC i, from 0, of the PATH that was TOLD last.")
    static void theArcsOfThePathToldLast() {
        NextPaths x = Graphs.ladder();
        x.next(0, 7, 299);
        Graphs.isTold("seven ARCS", x, 2, 3, 6, 11, 12, 16, 18);
        x.within(6, 7, 0);
        Graphs.isTold("one ARC, after seven", x, 19);
        x.next(0, 2, 8);
        Graphs.isTold("two ARCS, after one", x, 2, 5);
        x.shut(2, true);
        x.change(5, 0, 0);
        x.count(0, 7);
        x.pairs(0, 7);
        x.apart(0, 7, 2, 0);
        x.most(0, 7, 1);
        Graphs.isTold("still the one TOLD last", x, 2, 5);
    }

    @Sentence(from = "Promise 14", words = "BAD: also none such.")
    static void badSteps() {
        NextPaths x = Graphs.row(1, 1, 1, 1, 1, 1, 1, 1, 1);
        for (int number : Graphs.outOf(0, -1)) {
            due("step(" + number + ") before one is TOLD", x.step(number), BAD);
        }
        x.next(0, 7, 0);
        for (int number : Graphs.outOf(0, 6)) {
            due("step(" + number + ") of seven", x.step(number), BAD);
        }
        x.next(0, 1, 0);
        for (int number : Graphs.outOf(0, 0)) {
            due("step(" + number + ") of one", x.step(number), BAD);
        }
        due("step(0) of one", x.step(0), 0);
        x.clear();
        due("step(0) after clear()", x.step(0), BAD);
    }

    @Sentence(from = "Promise 15", words = "Of the PATH that was TOLD last, as it was then")
    static void theSumsAsTheyWere() {
        NextPaths x = Graphs.side(5, 6, 7, 8);
        x.next(0, 1, 1);
        x.change(1, 1000, 1000);
        due("sum(0) after change", x.sum(0), 7);
        due("sum(1) after change", x.sum(1), 8);
        x.shut(1, true);
        due("sum(0) after shut", x.sum(0), 7);
        due("sum(2) after shut", x.sum(2), 1);
        x.arc(0, 1, 0, 0);
        due("sum(0) after arc", x.sum(0), 7);
        x.next(0, 1, 2);
        due("sum(0) after NONE", x.sum(0), 7);
        x.shut(1, false);
        x.next(0, 1, 2);
        due("sum(0) TOLD anew", x.sum(0), 1000);
        due("sum(1) TOLD anew", x.sum(1), 1000);
    }

    @Sentence(from = "Promise 15", words = "what = 0 its WEIGHT, 1 SECOND, 2 how many ARCS.")
    static void theLeastAndTheGreatestSums() {
        NextPaths x = Graphs.row(1000, 999, 1, 1, 1, 1, 1, 1, 1);
        x.next(0, 7, 0);
        due("sum(0)", x.sum(0), 7000);
        due("sum(1)", x.sum(1), 6993);
        due("sum(2)", x.sum(2), 7);
        NextPaths y = Graphs.side(0, 0);
        y.within(0, 1, 0);
        due("sum(0) of 0", y.sum(0), 0);
        due("sum(1) of 0", y.sum(1), 0);
        due("sum(2) of one ARC", y.sum(2), 1);
    }

    @Sentence(from = "Promise 15", words = "BAD;")
    static void badSums() {
        NextPaths x = Graphs.diamond();
        for (int number : Graphs.outOf(0, 2)) {
            due("sum(" + number + ") before one is TOLD", x.sum(number), BAD);
        }
        x.next(0, 3, 3);
        for (int number : Graphs.outOf(0, 2)) {
            due("sum(" + number + ")", x.sum(number), BAD);
        }
    }

    @Sentence(from = "Promise 15", words = "NONE: none was.")
    static void noSumsBeforeOneIsTold() {
        NextPaths x = Graphs.diamond();
        Graphs.nothingIsTold("before one is TOLD", x);
        x.count(0, 3);
        x.pairs(0, 3);
        x.apart(0, 3, 1, 0);
        x.most(0, 3, 0);
        x.next(3, 0, 0);
        x.next(0, 3, 300);
        x.within(0, 3, 0);
        Graphs.nothingIsTold("after calls that tell none", x);
        x.next(0, 3, 0);
        due("sum(0), one is TOLD", x.sum(0), 4);
        x.clear();
        Graphs.nothingIsTold("after clear()", x);
    }

    @Sentence(from = "Promise 16",
        words = "Of an ARC: what = 0 from, 1 to, 2 WEIGHT, 3 SECOND, 4 whether it is SHUT (1 or 0).")
    static void ofTheFirstAndTheLastArc() {
        NextPaths x = Graphs.withNodes(8);
        x.arc(7, 0, 0, 1000);
        for (int i = 1; i < 19; i++) {
            x.arc(1, 2, 3, 4);
        }
        x.arc(0, 7, 1000, 0);
        x.shut(19, true);
        int[] first = {7, 0, 0, 1000, 0};
        int[] last = {0, 7, 1000, 0, 1};
        for (int what = 0; what < 5; what++) {
            due("told(0, " + what + ")", x.told(0, what), first[what]);
            due("told(19, " + what + ")", x.told(19, what), last[what]);
        }
        x.shut(19, false);
        due("told(19, 4), no more SHUT", x.told(19, 4), 0);
        x.change(19, 0, 1000);
        due("told(19, 2), changed", x.told(19, 2), 0);
        due("told(19, 3), changed", x.told(19, 3), 1000);
    }

    @Sentence(from = "Promise 16", words = "BAD.")
    static void badTolds() {
        NextPaths x = Graphs.row(1, 1, 20);
        for (int number : Graphs.outOf(0, 19)) {
            due("told(" + number + ", 0) of 20", x.told(number, 0), BAD);
            due("told(" + number + ", 4) of 20", x.told(number, 4), BAD);
        }
        for (int number : Graphs.outOf(0, 4)) {
            due("told(0, " + number + ")", x.told(0, number), BAD);
        }
        NextPaths y = Graphs.side(1, 1);
        due("told(1, 0) of one", y.told(1, 0), BAD);
        y.clear();
        due("told(0, 0) after clear()", y.told(0, 0), BAD);
        due("told(0, 0) of a new one", new NextPaths().told(0, 0), BAD);
    }

    @Sentence(from = "Promise 17", words = "What = 0 how many NODES, 1 ARCS, 2 those that are SHUT.")
    static void howManyFromNoneToFull() {
        NextPaths x = new NextPaths();
        for (int what = 0; what < 3; what++) {
            due("of(" + what + ") of a new one", x.of(what), 0);
        }
        NextPaths full = Graphs.ladder();
        for (int i = 0; i < 20; i++) {
            due("of(2) with " + i + " SHUT", full.of(2), i);
            full.shut(i, true);
        }
        due("of(2) with all SHUT", full.of(2), 20);
        due("of(1) with all SHUT", full.of(1), 20);
        due("of(0)", full.of(0), 8);
        full.shut(7, true);
        due("of(2), one SHUT twice", full.of(2), 20);
        full.shut(7, false);
        full.shut(7, false);
        due("of(2), one no more SHUT", full.of(2), 19);
    }

    @Sentence(from = "Promise 17", words = "BAD.")
    static void badOfs() {
        NextPaths x = Graphs.diamond();
        for (int number : Graphs.outOf(0, 2)) {
            due("of(" + number + ")", x.of(number), BAD);
            due("of(" + number + ") of a new one", new NextPaths().of(number), BAD);
        }
    }
}
