import java.util.Set;
import java.util.TreeSet;
import java.util.function.IntUnaryOperator;

/** Boundary cases, promise by promise: each answer is told with the number of its promise and the words that name the case. */
final class Bounds {
    static final int MIN = Integer.MIN_VALUE, MAX = Integer.MAX_VALUE;
    static final int PART = 0, STORE = 1, LOSS = 2, GIVE = 3, TURN = 4, JOIN = 5;
    static final int BAD = PowerBonds.BAD, NO = PowerBonds.NO, FULL = PowerBonds.FULL, NONE = PowerBonds.NONE, MANY = PowerBonds.MANY;
    static final int CLASH = PowerBonds.CLASH, NOTHING = PowerBonds.NOTHING, KIND = PowerBonds.KIND, INDEX = PowerBonds.INDEX;
    static final int SIZE = PowerBonds.SIZE;
    static final int PRIME = 1000003;

    private final Due due = new Due();
    private final Set<Integer> promises = new TreeSet<>();
    private int promise;
    private String words = "";

    /** What is asked from here on belongs to these words of that promise. */
    void promise(int number, String itsWords) {
        promise = number;
        words = itsWords;
    }

    void due(String call, long got, long want) {
        promises.add(promise);
        due.due("Promise " + promise + " (" + words + "): " + call, got, want);
    }

    /** The same answer for each of these values. */
    void each(String call, IntUnaryOperator asked, long want, int... values) {
        for (int v : values) {
            due(call + " with " + v, asked.applyAsInt(v), want);
        }
    }

    /** From the smallest to the largest it is taken; the first on either side, and what lies far out, is refused. */
    void within(String call, IntUnaryOperator asked, int smallest, int largest, int refusal) {
        each(call, asked, refusal, smallest - 1, largest + 1, MIN, MAX);
        for (int v = smallest; v <= largest; v++) {
            promises.add(promise);
            int got = asked.applyAsInt(v);
            due.holds("Promise " + promise + " (" + words + "): " + call + " with " + v + " is taken, not " + got, got != refusal);
        }
    }

    /** So many parts of a kind, of sort 0 and share 1 by 1. */
    static PowerBonds parts(int kind, int many) {
        PowerBonds x = new PowerBonds();
        for (int i = 0; i < many; i++) {
            x.part(kind, 0, 11);
        }
        return x;
    }

    /** Two parts of share 1 by 1 and bond 0 from the first to the second. */
    static PowerBonds pair(int kind, int sort, int otherKind, int otherSort) {
        PowerBonds x = new PowerBonds();
        x.part(kind, sort, 11);
        x.part(otherKind, otherSort, 11);
        x.bond(0, 1);
        return x;
    }

    /** Two more GIVES of pushes, tied to one another: with unlike holds there is no answer, with like ones there are many. */
    static void tieGives(PowerBonds x, int holdOfOne) {
        int one = x.part(GIVE, 0, 11);
        int other = x.part(GIVE, 0, 11);
        x.bond(one, other);
        x.set(one, 3, holdOfOne);
    }

    void end() {
        for (int i = 1; i <= 39; i++) {
            due.holds("promise " + i + " has boundary cases", promises.contains(i));
        }
        due.end();
    }
}
