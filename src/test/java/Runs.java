/** Small graphs, and ways to drive them, that several tests share. */
final class Runs {
    static final int BAD = SplitNodes.BAD;
    static final int STATE = SplitNodes.STATE;
    static final int FULL = SplitNodes.FULL;
    static final long NONE = SplitNodes.NONE;
    static final int MIN = Integer.MIN_VALUE;
    static final int MAX = Integer.MAX_VALUE;

    private Runs() {
    }

    /**
     * Two nodes, vertex 0 at node 0 and vertex 1 at node 1, both of value 1, an arc of weight 1 each
     * way. By SUMS it never ends, the values stay 1 and the totals are the round.
     */
    static Script pair(int kind, int every) {
        return new Script()
            .then(x -> x.vertex(0, 1)).then(x -> x.vertex(1, 1))
            .then(x -> x.arc(0, 1, 1)).then(x -> x.arc(1, 0, 1))
            .then(x -> x.kind(kind)).then(x -> x.every(every));
    }

    static Script startedPair(int every) {
        return pair(2, every).then(SplitNodes::start);
    }

    /** A pair by SUMS in which both nodes are in a round. */
    static Script pairInRound(int every, int round) {
        return startedPair(every).then(x -> deliverFirst(x, 2 * round));
    }

    /** Three nodes; vertices 0 (4), 1 (6) at node 0, 2 (90) at node 1, 3 (90) at node 2. */
    static Script three() {
        return new Script().then(x -> x.nodes(3))
            .then(x -> x.vertex(0, 4)).then(x -> x.vertex(0, 6))
            .then(x -> x.vertex(1, 90)).then(x -> x.vertex(2, 90))
            .then(x -> x.arc(1, 2, 5)).then(x -> x.arc(0, 3, 8)).then(x -> x.arc(0, 2, 7))
            .then(x -> x.arc(0, 1, 1)).then(x -> x.arc(0, 2, -9));
    }

    /** Its net: 0 to 1, 0 to 2, 1 to 0, 1 to 2, 2 to 0, 2 to 1. */
    static Script startedThree() {
        return three().then(SplitNodes::start);
    }

    /** Two nodes of which both have ended in round 1; the net is empty. */
    static Script ended() {
        return new Script()
            .then(x -> x.vertex(0, 5)).then(x -> x.vertex(1, 5)).then(x -> x.arc(0, 1, 0))
            .then(SplitNodes::start).then(x -> deliverFirst(x, 4));
    }

    /** One vertex at each of two nodes, of such values, and an arc from the first to the second. */
    static Script oneArc(int kind, int value, int target, int w) {
        return new Script()
            .then(x -> x.vertex(0, value)).then(x -> x.vertex(1, target)).then(x -> x.arc(0, 1, w))
            .then(x -> x.kind(kind)).then(SplitNodes::start);
    }

    /** Delivers the first letter of the net so often. */
    static void deliverFirst(SplitNodes x, int times) {
        for (int i = 0; i < times; i++) {
            x.deliver(0);
        }
    }

    /** Delivers the first letter in the net that goes to a node; its answer, or BAD if there is none. */
    static int deliverTo(SplitNodes x, int node) {
        for (int i = 0; i < x.told(4); i++) {
            if (x.letter(i, 1) == node) {
                return x.deliver(i);
            }
        }
        return BAD;
    }

    static int deliverLast(SplitNodes x) {
        return x.deliver(x.told(4) - 1);
    }

    static void empty(SplitNodes x) {
        for (int i = x.told(4); i > 0; i--) {
            x.lose(0);
        }
    }

    /** Copies the first letter until the net has no room. */
    static void fill(SplitNodes x) {
        for (int i = x.told(4); i < 60; i++) {
            x.copy(0);
        }
    }

    static void resendAll(SplitNodes x) {
        for (int from = 0; from < x.told(2); from++) {
            for (int to = 0; to < x.told(2); to++) {
                x.resend(from, to);
            }
        }
    }

    /** A letter in the net: from, to, round, epoch, entries, active ones told; then its entries. */
    static String letter(SplitNodes x, int i) {
        StringBuilder s = new StringBuilder();
        for (int what = 0; what < 6; what++) {
            s.append(x.letter(i, what)).append(' ');
        }
        for (int j = 0; j < x.letter(i, 4); j++) {
            s.append(x.entry(i, j, 0)).append(':').append(x.entry(i, j, 1)).append(' ');
        }
        return s.toString().trim();
    }
}
