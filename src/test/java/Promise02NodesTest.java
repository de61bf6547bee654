import java.util.function.Consumer;

/** Promise 2: nodes. */
final class Promise02NodesTest {
    private static final Due due = new Due("Promise 2: nodes");

    public static void main(String[] args) {
        twoToFive();
        tooFewTooMany();
        howManyVertices();
        allAsAtFirst();
        ofOtherNodesToo();
        due.end();
    }

    private static void twoToFive() {
        due.sentence("N is 2 .. 5");
        for (int n = 2; n <= 5; n++) {
            SplitNodes x = new SplitNodes();
            due.is("nodes(" + n + ")", x.nodes(n), 0);
            due.is("told(2)", x.told(2), n);
            due.is("the last node", x.node(n - 1, 0), 0);
            due.is("one too many", x.node(n, 0), Runs.BAD);
            due.is("start()", x.start(), n * (n - 1));
        }
    }

    private static void tooFewTooMany() {
        due.sentence("BAD");
        Script[] states = {new Script(), Runs.three(), Runs.startedThree(), Runs.ended(),
            Runs.startedThree().then(x -> x.crash(2))};
        for (Script state : states) {
            for (int n : new int[] {1, 6, 0, -1, -2, Runs.MIN, Runs.MAX}) {
                state.refuses(due, "nodes(" + n + ")", x -> x.nodes(n), Runs.BAD);
            }
        }
    }

    private static void howManyVertices() {
        due.sentence("how many VERTICES there were");
        SplitNodes x = new SplitNodes();
        due.is("none", x.nodes(2), 0);
        x.vertex(0, 1);
        due.is("one", x.nodes(4), 1);
        due.is("none again", x.nodes(3), 0);
        for (int v = 0; v < 17; v++) {
            x.vertex(2, v);
        }
        due.is("sixteen", x.nodes(3), 16);
    }

    private static void allAsAtFirst() {
        due.sentence("All as at first, but n NODES");
        Script busy = Runs.three().then(x -> x.kind(1)).then(x -> x.joined(true)).then(x -> x.every(3));
        Script[] before = {busy, busy.then(SplitNodes::start),
            busy.then(SplitNodes::start).then(Promise02NodesTest::useAll),
            busy.then(SplitNodes::start).then(Runs::fill), Runs.ended(), Runs.pairInRound(1, 4),
            Runs.startedPair(0).then(x -> x.deliver(0)).then(x -> x.deliver(1)),
            Runs.startedPair(0).then(x -> x.crash(0)).then(x -> x.crash(1))};
        for (Script script : before) {
            for (int i = 2; i <= 5; i++) {
                int n = i;
                Consumer<SplitNodes> anew = x -> x.nodes(n);
                new Script().then(anew).isSame(due, "nodes(" + n + ")", script.then(anew));
            }
        }
    }

    /** Letters of every answer, a node that fails, a vertex that moves. */
    private static void useAll(SplitNodes x) {
        x.copy(0);
        Runs.deliverFirst(x, 7);
        x.resend(0, 1);
        x.crash(1);
        Runs.deliverTo(x, 1);
        x.back();
        x.move(0, 2);
        Runs.deliverFirst(x, 3);
        x.crash(2);
    }

    private static void ofOtherNodesToo() {
        due.sentence("All as at first, for NODES that were not there between, too");
        SplitNodes x = new SplitNodes();
        x.nodes(5);
        x.vertex(4, 7);
        x.start();
        Runs.deliverTo(x, 4);
        x.crash(4);
        x.nodes(2);
        due.is("vertex(4, 0)", x.vertex(4, 0), Runs.BAD);
        x.nodes(5);
        due.is("down", x.node(4, 2), 0);
        due.is("letters", x.node(4, 3), 0);
        due.is("mark", x.node(4, 5), -1);
        due.is("vertices", x.node(4, 4), 0);
    }
}
