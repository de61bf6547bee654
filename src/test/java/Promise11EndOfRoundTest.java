/** Promise 11: deliver, what a node does that has all letters of its round. */
final class Promise11EndOfRoundTest {
    private static final Due due = new Due("Promise 11: deliver, the end of a round");

    public static void main(String[] args) {
        ended();
        notEnded();
        least();
        widest();
        sums();
        sumsGoRound();
        sumsWithout();
        latest();
        latestWithout();
        amongThemselves();
        fullSize();
        itGoesOn();
        itGoesOnToItsEnd();
        itGoesOnTo200();
        in200();
        comesBehind();
        noRoom();
        due.end();
    }

    private static void ended() {
        due.sentence("if none of these, and not itself, tells an ACTIVE VERTEX, it has ENDED");
        SplitNodes x = Runs.oneArc(0, 5, 5, 0).object();
        Runs.deliverFirst(x, 2);
        due.is("not before it has the letters", x.node(1, 1), 0);
        due.is("the last letter", Runs.deliverTo(x, 1), 0);
        due.is("ended", x.node(1, 1), 1);
        due.is("its round stays", x.node(1, 0), 1);
        due.is("letters that it had", x.node(1, 3), 1);
        due.is("it writes nothing", x.told(5), 4);
        due.is("the other one has not", x.node(0, 1), 0);
    }

    private static void notEnded() {
        due.sentence("else .. it comes into the next ROUND");
        SplitNodes x = new Script().then(y -> y.vertex(0, 5)).then(SplitNodes::start).object();
        due.is("itself has an active vertex", Runs.deliverTo(x, 0), 0);
        due.is("itself: not ended", x.node(0, 1), 0);
        due.is("itself: next round", x.node(0, 0), 1);
        due.is("another tells one", x.deliver(0), 0);
        due.is("another: not ended", x.node(1, 1), 0);
        due.is("another: next round", x.node(1, 0), 1);
        SplitNodes y = new SplitNodes();
        y.nodes(3);
        y.vertex(2, 5);
        y.start();
        due.is("one that tells none", y.deliver(2), 0);
        due.is("then one that tells one", y.deliver(3), 0);
        due.is("the second: next round", y.node(0, 0), 1);
    }

    /** Behind one round: value, total and active of the vertex that the arc leads to. */
    private static void row(int kind, int value, int target, int w, int... want) {
        SplitNodes x = Runs.oneArc(kind, value, target, w).object();
        Runs.deliverFirst(x, 2);
        String run = "kind " + kind + ", x " + value + " to " + target + ", w " + w;
        for (int what = 0; what < 3; what++) {
            due.is(run + ", of(1, " + what + ")", x.of(1, what), want[what]);
            due.is(run + ", alone(1, 1, " + what + ")", x.alone(1, 1, what), want[what]);
        }
    }

    private static void least() {
        due.sentence("0: its VALUE becomes the least of it and all MESSAGES");
        row(0, 4, 10, 5, 9, 0, 1);
        row(0, 4, 10, 6, 10, 0, 0);
        row(0, 4, 10, 7, 10, 0, 0);
        row(0, Runs.MAX, 10, 1, Runs.MIN, 0, 1);
        row(0, Runs.MIN, Runs.MAX, -1, Runs.MAX, 0, 0);
    }

    private static void widest() {
        due.sentence("1: the greatest of these");
        row(1, 40, 10, 11, 11, 0, 1);
        row(1, 40, 10, 10, 10, 0, 0);
        row(1, 40, 10, 9, 10, 0, 0);
        row(1, 40, Runs.MIN, -1000, -1000, 0, 1);
        row(1, Runs.MIN, Runs.MIN, 1000, Runs.MIN, 0, 0);
    }

    private static void sums() {
        due.sentence("2: the sum of all MESSAGES, which is added to its TOTAL, too; by 2: if it is not 0");
        row(2, 4, 10, 5, 20, 20, 1);
        row(2, 4, 20, 5, 20, 20, 1);
        row(2, 4, 10, 0, 0, 0, 0);
        row(2, 0, 10, 5, 0, 0, 0);
        row(2, Runs.MIN, 10, 2, 0, 0, 0);
        row(2, Runs.MAX, 10, -1000, 1000, 1000, 1);
    }

    private static void sumsGoRound() {
        due.sentence("the sum, the TOTAL: all ints, going round");
        SplitNodes x = new SplitNodes();
        x.nodes(3);
        x.vertex(0, Runs.MAX);
        x.vertex(1, Runs.MAX);
        x.vertex(2, 1);
        x.arc(0, 2, 1);
        x.arc(1, 2, 1);
        x.arc(0, 0, 1);
        x.arc(1, 1, 1);
        x.kind(2);
        x.start();
        Runs.deliverFirst(x, 6);
        due.is("sum of two letters", x.of(2, 0), -2);
        due.is("total of MAX", x.of(0, 1), Runs.MAX);
        Runs.deliverFirst(x, 6);
        due.is("total that goes round", x.of(0, 1), -2);
        due.is("alone", x.alone(0, 2, 1), -2);
        SplitNodes y = new SplitNodes();
        y.vertex(0, Runs.MIN);
        y.vertex(0, Runs.MIN);
        y.vertex(1, 7);
        y.arc(0, 2, 1);
        y.arc(1, 2, 1);
        y.kind(2);
        y.start();
        y.deliver(0);
        due.is("a sum that goes round to 0", y.of(2, 0), 0);
        due.is("is not active", y.of(2, 2), 0);
    }

    private static void sumsWithout() {
        due.sentence("the sum of all MESSAGES (0 without)");
        SplitNodes x = Runs.oneArc(2, 4, 10, 5).object();
        Runs.deliverFirst(x, 2);
        due.is("value", x.of(0, 0), 0);
        due.is("total", x.of(0, 1), 0);
        due.is("active", x.of(0, 2), 0);
        Runs.deliverFirst(x, 2);
        due.is("value of the other one in round 2", x.of(1, 0), 0);
        due.is("its total stays", x.of(1, 1), 20);
    }

    /** By LATEST the arc's number decides, whichever letter comes last. */
    private static void latest() {
        due.sentence("3: the MESSAGE of the ARC with the greatest number");
        row(3, 4, 10, 5, 9, 0, 1);
        row(3, 4, 10, 6, 10, 0, 0);
        row(3, Runs.MAX, 10, 1, Runs.MIN, 0, 1);
        for (int turn = 0; turn < 2; turn++) {
            SplitNodes x = new SplitNodes();
            x.nodes(3);
            x.vertex(2, 0);
            x.vertex(0, 50);
            x.vertex(1, 70);
            x.arc(1, 0, 1);
            x.arc(2, 0, 2);
            x.arc(1, 0, 3);
            x.arc(0, 0, 9);
            x.arc(2, 0, 4);
            x.arc(1, 0, 5);
            x.kind(3);
            x.start();
            due.is("first letter", x.deliver(turn == 0 ? 1 : 3), 0);
            due.is("second letter", x.deliver(turn == 0 ? 2 : 1), 0);
            due.is("value", x.of(0, 0), 55);
        }
        SplitNodes y = new SplitNodes();
        y.vertex(0, 50);
        y.vertex(1, 70);
        y.arc(0, 1, 1);
        y.arc(1, 1, 2);
        y.kind(3);
        y.start();
        y.deliver(0);
        due.is("an ARC of its own node has the greatest", y.of(1, 0), 72);
    }

    /** Vertex 0 has the greatest arc to vertex 2 but is active in round 0 alone; vertex 1 always is. */
    private static void latestWithout() {
        due.sentence("3: without any it stays; who is not ACTIVE sends none");
        SplitNodes y = Runs.oneArc(3, 4, 10, 5).object();
        Runs.deliverFirst(y, 2);
        due.is("value", y.of(0, 0), 4);
        due.is("active", y.of(0, 2), 0);
        for (int home = 0; home < 2; home++) {
            SplitNodes x = new SplitNodes();
            x.vertex(0, 0);
            x.vertex(0, 0);
            x.vertex(home, 0);
            x.arc(1, 1, 1);
            x.arc(1, 2, 10);
            x.arc(0, 2, 100);
            x.kind(3);
            x.start();
            Runs.deliverFirst(x, 2);
            due.is("round 1", x.of(2, 0), 100);
            due.is("not active", x.of(0, 2), 0);
            Runs.deliverFirst(x, 2);
            due.is("round 2", x.of(2, 0), 11);
            due.is("alone", x.alone(2, 2, 0), 11);
        }
    }

    private static void amongThemselves() {
        due.sentence("its VERTICES take what was sent to them (in LETTERS, and among themselves)");
        int[] want = {-6, 3, -8 * 3 + 2 * 5};
        for (int kind = 0; kind < 3; kind++) {
            SplitNodes x = new SplitNodes();
            x.vertex(0, 3);
            x.vertex(0, 0);
            x.vertex(1, -8);
            x.vertex(1, 2);
            x.arc(2, 3, 3);
            x.arc(0, 3, -9);
            x.arc(0, 3, kind == 2 ? 9 : 4);
            x.arc(3, 3, kind == 2 ? 5 : 1);
            x.kind(kind);
            x.start();
            x.deliver(0);
            due.is("kind " + kind, x.of(3, 0), want[kind]);
            due.is("kind " + kind + " alone", x.alone(3, 1, 0), want[kind]);
            due.is("the other node's wait", x.of(0, 0), 3);
        }
    }

    /** Letters are taken from both ends of the net, so that some come ahead. */
    private static void fullSize() {
        due.sentence("5 NODES, 16 VERTICES, 40 ARCS: each round's values are those of one node alone");
        for (int kind = 0; kind < 4; kind++) {
            SplitNodes x = new SplitNodes();
            x.nodes(5);
            for (int v = 0; v < 16; v++) {
                x.vertex(v % 5, 50 * (v % 7) - 3 * v);
            }
            for (int a = 0; a < 40; a++) {
                x.arc(7 * a % 16, (3 * a + a / 16 + 1) % 16, a % 2 == 0 ? 3 * a - 40 : 25 - a);
            }
            x.kind(kind);
            x.start();
            for (int i = 0; i < 4 * 20; i++) {
                x.deliver(i % 3 == 0 ? x.told(4) - 1 : 0);
            }
            for (int v = 0; v < 16; v++) {
                int round = x.node(v % 5, 0);
                due.isTrue("kind " + kind + " it went on", round > 0);
                for (int what = 0; what < 3; what++) {
                    due.is("kind " + kind + " of(" + v + ", " + what + ")", x.of(v, what), x.alone(v, round, what));
                }
            }
        }
    }

    private static void itGoesOn() {
        due.sentence("It may have the LETTERS of that ROUND by then: it goes on");
        SplitNodes x = Runs.startedPair(0).object();
        x.deliver(0);
        due.is("a letter of the ROUND to come", x.deliver(1), 0);
        due.is("it waits for that of its own", x.node(0, 0), 0);
        due.is("the letter of its own", x.deliver(0), 0);
        due.is("two rounds on", x.node(0, 0), 2);
        due.is("total", x.of(0, 1), 2);
        due.is("it writes in each", x.told(5), 5);
        due.is("round of the first", x.letter(0, 2), 1);
        due.is("round of the second", x.letter(1, 2), 2);
    }

    private static void itGoesOnToItsEnd() {
        due.sentence("it goes on, to its end, too");
        SplitNodes x = Runs.oneArc(0, 5, 5, 0).object();
        x.deliver(0);
        x.deliver(1);
        due.is("not ended before", x.node(0, 1), 0);
        due.is("the letter of its own round", x.deliver(0), 0);
        due.is("its round", x.node(0, 0), 1);
        due.is("ended", x.node(0, 1), 1);
        due.is("letters that it had", x.node(0, 3), 1);
        due.is("it has written in round 1", x.told(5), 4);
    }

    private static void itGoesOnTo200() {
        due.sentence("it goes on, to ROUND 200, too");
        SplitNodes x = Runs.pairInRound(0, 198).object();
        due.is("node 1 comes into 199", Runs.deliverTo(x, 1), 0);
        due.is("its letter comes ahead", Runs.deliverLast(x), 0);
        due.is("the letter of 198", Runs.deliverTo(x, 0), 0);
        due.is("two rounds on", x.node(0, 0), 200);
        due.is("ended", x.node(0, 1), 1);
        due.is("total", x.of(0, 1), 200);
        due.is("written", x.told(5), 400);
    }

    private static void in200() {
        due.sentence("in ROUND 200 it has ENDED at once (it WRITES nothing)");
        SplitNodes x = Runs.pairInRound(50, 199).object();
        due.is("round 199", x.node(1, 0), 199);
        due.is("not ended in 199", x.node(1, 1), 0);
        due.is("written before", x.told(5), 400);
        due.is("into round 200", Runs.deliverTo(x, 1), 0);
        due.is("round 200", x.node(1, 0), 200);
        due.is("ended", x.node(1, 1), 1);
        due.is("though a vertex is active", x.of(1, 2), 1);
        due.is("no letters of round 200", x.node(1, 3), 0);
        due.is("nothing written", x.told(5), 400);
        due.is("no mark of 200", x.node(1, 5), 150);
        due.is("its vertices took round 199's", x.of(1, 1), 200);
        due.is("the other one, too", Runs.deliverTo(x, 0), 0);
        due.is("both in 200", x.node(0, 0), 200);
        due.is("the net is empty", x.told(4), 0);
        x.crash(0);
        due.is("back from the last round", x.back(), 150);
        due.is("not ended any more", x.node(1, 1), 0);
        due.is("total as in round 150", x.of(1, 1), 150);
    }

    private static void comesBehind() {
        due.sentence("what is WRITTEN comes behind it");
        SplitNodes x = Runs.startedThree().object();
        x.deliver(0);
        x.deliver(4);
        due.is("letters", x.told(4), 6);
        due.is("the first", x.letter(0, 1), 2);
        for (int i = 4; i < 6; i++) {
            due.is("from", x.letter(i, 0), 1);
            due.is("to", x.letter(i, 1), i == 4 ? 0 : 2);
            due.is("round", x.letter(i, 2), 1);
        }
    }

    private static void noRoom() {
        due.sentence("60 at most: where there is no room it is LOST");
        SplitNodes x = Runs.startedThree().then(Runs::fill).object();
        x.deliver(0);
        due.is("room for one", x.copy(0), 60);
        due.is("node 1's last letter", x.deliver(4), 0);
        due.is("node 1 comes into round 1", x.node(1, 0), 1);
        due.is("both count as written", x.told(5), 8);
        due.is("letters", x.told(4), 60);
        due.is("the first one has room: from", x.letter(59, 0), 1);
        due.is("the first one has room: to", x.letter(59, 1), 0);
        due.is("the first one has room: round", x.letter(59, 2), 1);
        due.is("before it comes a copy", x.letter(58, 2), 0);
        x.lose(0);
        x.lose(0);
        due.is("what was lost is kept", x.resend(1, 2), 2);
        due.is("it comes again", x.letter(59, 2), 1);
    }
}
