import java.util.function.Supplier;
import java.util.function.ToLongFunction;

/**
 * Runs boundary cases. Each is a test of its own, on objects of its own, and stands under the sentence of the document
 * that it holds to, so that a broken case tells which sentence is broken.
 */
abstract class Edges implements Whats {
    static final int DONE = 0;
    static final int REFUSED = -1;
    static final int FULL = -2;
    static final int FROZEN = -3;
    static final int HELD = -4;
    static final int OUTDATED = -5;
    static final int UNFIT = -6;
    static final int CRASHED = -7;
    static final long NONE = -1000000000000L;

    static final int MIN = Integer.MIN_VALUE;
    static final int MAX = Integer.MAX_VALUE;
    static final int[] NO_NODES = {MIN, -1, 2, MAX};
    static final int[] NO_CELLS = {MIN, -1, 24, MAX};
    static final int NOBODY = 2;

    private static String sentence = "";
    private static String name = "";
    private static boolean broken = false;
    private static int edges = 0;
    private static int brokenEdges = 0;

    /** The sentence that the cases after it hold to. */
    static void says(String words) {
        sentence = words;
    }

    static void edge(String called, Runnable test) {
        name = called;
        broken = false;
        edges++;
        try {
            test.run();
        } catch (RuntimeException thrown) {
            tell("it threw " + thrown);
        }
        if (broken) {
            brokenEdges++;
        }
    }

    static void is(String call, long want, long got) {
        if (got != want) {
            tell(call + " answered " + got + ", due is " + want);
        }
    }

    static void same(String what, String want, String got) {
        if (!got.equals(want)) {
            tell(what + "\n  is  " + got + "\n  due " + want);
        }
    }

    static void marksAre(WitnessedMirror x, int of0, int of1) {
        is("marks of node 0", of0, x.node(0, MARKS));
        is("marks of node 1", of1, x.node(1, MARKS));
    }

    /** All that is told of a node, in the order of its whats. */
    static void nodeIs(WitnessedMirror x, int node, int[] told) {
        for (int what = 0; what < told.length; what++) {
            is("node(" + node + ", " + what + ")", told[what], x.node(node, what));
        }
    }

    /** The call answers so, and leaves the mirror like another one that was made alike and not asked. */
    static void refused(long want, Supplier<WitnessedMirror> made, ToLongFunction<WitnessedMirror> call) {
        WitnessedMirror asked = made.get();
        is("the call", want, call.applyAsLong(asked));
        same("what it left", Mirrors.everything(made.get()), Mirrors.everything(asked));
    }

    static void end() {
        if (brokenEdges != 0) {
            System.out.println(brokenEdges + " of " + edges + " boundary cases are broken");
            System.exit(1);
        }
    }

    private static void tell(String what) {
        broken = true;
        System.out.println("\"" + sentence + "\" | " + name + ": " + what);
    }
}
