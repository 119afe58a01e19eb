import java.util.function.IntSupplier;
import java.util.function.IntUnaryOperator;

/** Goes through the document's sentences that name an edge; what is not as due is told with the sentence. */
final class Edge {
    static final int NONE = -1, UNKNOWN = -101, OUTSIDE = -102, STATE = -103, FULL = -104;
    static final int LOW = Integer.MIN_VALUE, HIGH = Integer.MAX_VALUE;

    private final Due due = new Due();
    private String sentence = "";

    void says(int promise, String words) {
        sentence = promise + " '" + words + "': ";
    }

    void is(String call, long got, long want) {
        due.is(sentence + call, got, want);
    }

    /** Answers to the same call with one number after another, the first of them being from. */
    void are(String call, IntUnaryOperator answer, int from, int... wants) {
        for (int i = 0; i < wants.length; i++) {
            is(call + " of " + (from + i), answer.applyAsInt(from + i), wants[i]);
        }
    }

    /** A call that changes nothing: what all calls tell is the same behind it. */
    void still(HeldTowns x, String call, int want, IntSupplier answer) {
        long before = x.digest();
        is(call, answer.getAsInt(), want);
        is(call + ", and digest() behind it", x.digest(), before);
    }

    /** The last number that is taken and the first that is refused, at both ends; a refusal changes nothing. */
    void range(HeldTowns x, String number, int refusal, int from, int to, IntUnaryOperator answer) {
        for (int taken : new int[] {from, to}) {
            int got = answer.applyAsInt(taken);
            due.holds(sentence + number + " " + taken + " is taken, not answered by " + got, got > UNKNOWN);
        }
        int[] refused = to == HIGH ? new int[] {from - 1, LOW} : new int[] {from - 1, to + 1, LOW, HIGH};
        for (int beside : refused) {
            still(x, number + " " + beside, refusal, () -> answer.applyAsInt(beside));
        }
    }

    void end(String name) {
        due.end(name);
    }
}
