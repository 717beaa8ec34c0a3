import java.util.ArrayList;
import java.util.List;

/** Graphs that several tests begin with, and questions that they ask in the same way. */
final class Graphs {
    static final int NONE = -1, BAD = -2, FULL = -3;
    static final int[] FAR_OUT = {-1, Integer.MIN_VALUE, Integer.MAX_VALUE};

    private Graphs() {
    }

    static NextPaths withNodes(int n) {
        NextPaths x = new NextPaths();
        for (int i = 0; i < n; i++) {
            x.node();
        }
        return x;
    }

    /** 0 to 1 to 3 (WEIGHT 4, SECOND 10), 0 to 2 to 3 (4, 9), 0 to 3 (4, 20), 0 to 1 to 2 to 3 (5, 5). */
    static NextPaths diamond() {
        NextPaths x = withNodes(4);
        x.arc(0, 1, 2, 5);
        x.arc(1, 3, 2, 5);
        x.arc(0, 2, 1, 9);
        x.arc(2, 3, 3, 0);
        x.arc(0, 3, 4, 20);
        x.arc(1, 2, 0, 0);
        return x;
    }

    /**
     * A row of 8 NODES with 3 ARCS between neighbours, 2 between the last ones: 1458 PATHS from 0 to 7, which is as
     * many as there can be. PATH k has WEIGHT k and SECOND 1457 - k.
     */
    static NextPaths ladder() {
        NextPaths x = withNodes(8);
        int unit = 1;
        for (int i = 0; i < 6; i++) {
            for (int digit = 0; digit < 3; digit++) {
                x.arc(i, i + 1, digit * unit, (2 - digit) * unit);
            }
            unit *= 3;
        }
        x.arc(6, 7, 0, unit);
        x.arc(6, 7, unit, 0);
        return x;
    }

    /** A row of NODES with so many ARCS from each one to the one after, all alike. */
    static NextPaths row(int weight, int second, int... arcs) {
        NextPaths x = withNodes(arcs.length + 1);
        for (int i = 0; i < arcs.length; i++) {
            for (int j = 0; j < arcs[i]; j++) {
                x.arc(i, i + 1, weight, second);
            }
        }
        return x;
    }

    /** ARCS from NODE 0 to NODE 1, each of a WEIGHT and a SECOND. */
    static NextPaths side(int... numbers) {
        NextPaths x = withNodes(2);
        for (int i = 0; i + 1 < numbers.length; i += 2) {
            x.arc(0, 1, numbers[i], numbers[i + 1]);
        }
        return x;
    }

    static void isAsNew(String when, NextPaths x) {
        for (int what = 0; what < 3; what++) {
            Check.due(when + ": of(" + what + ")", x.of(what), 0);
            Check.due(when + ": sum(" + what + ")", x.sum(what), NONE);
        }
        Check.due(when + ": step(0)", x.step(0), BAD);
        Check.due(when + ": pair(0, 0)", x.pair(0, 0), BAD);
        Check.due(when + ": told(0, 0)", x.told(0, 0), BAD);
        Check.due(when + ": count(0, 1)", x.count(0, 1), BAD);
    }

    static void isTold(String when, NextPaths x, int... arcs) {
        Check.due(when + ": sum(2)", x.sum(2), arcs.length);
        for (int i = 0; i < arcs.length; i++) {
            Check.due(when + ": step(" + i + ")", x.step(i), arcs[i]);
        }
        Check.due(when + ": step(" + arcs.length + ")", x.step(arcs.length), BAD);
    }

    static void nothingIsTold(String when, NextPaths x) {
        for (int what = 0; what < 3; what++) {
            Check.due(when + ": sum(" + what + ")", x.sum(what), NONE);
        }
        Check.due(when + ": step(0)", x.step(0), BAD);
    }

    static void arePairs(String when, NextPaths x, int... numbers) {
        for (int i = 0; i < numbers.length / 2; i++) {
            Check.due(when + ": pair(" + i + ", 0)", x.pair(i, 0), numbers[2 * i]);
            Check.due(when + ": pair(" + i + ", 1)", x.pair(i, 1), numbers[2 * i + 1]);
        }
        Check.due(when + ": pair beyond, WEIGHT", x.pair(numbers.length / 2, 0), BAD);
        Check.due(when + ": pair beyond, SECOND", x.pair(numbers.length / 2, 1), BAD);
    }

    /**
     * Numbers out of some bounds: those next to them, the ends of int, and such as fall into the bounds when bits are
     * cut off.
     */
    static int[] outOf(int least, int greatest) {
        int[] tried = {least - 1, greatest + 1, Integer.MIN_VALUE, Integer.MAX_VALUE, -greatest, least + 32,
            least + 256, least + 65536, least - 65536, Integer.MIN_VALUE + greatest, -1 - greatest};
        List<Integer> out = new ArrayList<>();
        for (int number : tried) {
            if ((number < least || number > greatest) && !out.contains(number)) {
                out.add(number);
            }
        }
        return out.stream().mapToInt(Integer::intValue).toArray();
    }

    /** All that can be read of an object without a change (some 170 calls at most). */
    static List<Integer> allOf(NextPaths x) {
        List<Integer> read = new ArrayList<>();
        for (int what = 0; what < 3; what++) {
            read.add(x.of(what));
            read.add(x.sum(what));
        }
        for (int arc = 0; arc < x.of(1); arc++) {
            for (int what = 0; what < 5; what++) {
                read.add(x.told(arc, what));
            }
        }
        for (int i = 0; i < 8; i++) {
            read.add(x.step(i));
            read.add(x.pair(i, 0));
            read.add(x.pair(i, 1));
        }
        return read;
    }
}
