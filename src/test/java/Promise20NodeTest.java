/** Promise 20: node. */
final class Promise20NodeTest {
    private static final Due due = new Due("Promise 20: node");

    public static void main(String[] args) {
        beforeStart();
        round();
        endedAndDown();
        lettersOfItsRound();
        lettersOfEnded();
        vertices();
        marks();
        noSuchNode();
        noSuchWhat();
        due.end();
    }

    private static void row(String when, SplitNodes x, int n, int... want) {
        for (int what = 0; what < 6; what++) {
            due.is(when + ": node(" + n + ", " + what + ")", x.node(n, what), want[what]);
        }
    }

    private static void beforeStart() {
        due.sentence("ROUND (0 before start()), the greatest ROUND of its MARKS (-1 before start())");
        row("new", new SplitNodes(), 1, 0, 0, 0, 0, 0, -1);
        row("before start()", Runs.three().object(), 0, 0, 0, 0, 0, 2, -1);
        row("behind start()", Runs.startedThree().object(), 0, 0, 0, 0, 0, 2, 0);
        SplitNodes x = Runs.pairInRound(1, 7).object();
        row("in round 7", x, 0, 7, 0, 0, 0, 1, 7);
        x.nodes(2);
        row("anew", x, 0, 0, 0, 0, 0, 0, -1);
    }

    private static void round() {
        due.sentence("ROUND (what = 0)");
        SplitNodes x = Runs.startedPair(0).object();
        Runs.deliverTo(x, 1);
        due.is("of the one ahead", x.node(1, 0), 1);
        due.is("of the other", x.node(0, 0), 0);
        due.is("200 is the last", Runs.pairInRound(0, 200).ask(y -> y.node(0, 0)), 200);
    }

    private static void endedAndDown() {
        due.sentence("whether it has ENDED (1), is DOWN (2)");
        SplitNodes x = Runs.ended().object();
        row("ended", x, 0, 1, 1, 0, 1, 1, 0);
        x.crash(0);
        row("down", x, 0, 1, 0, 1, 0, 1, 0);
        row("the other", x, 1, 1, 1, 0, 1, 1, 0);
        x.back();
        row("behind back()", x, 0, 0, 0, 0, 0, 1, 0);
    }

    private static void lettersOfItsRound() {
        due.sentence("how many LETTERS of its ROUND it has (3)");
        SplitNodes x = new SplitNodes();
        x.nodes(5);
        x.vertex(0, 1);
        x.start();
        for (int had = 0; had < 4; had++) {
            due.is("has " + had, x.node(3, 3), had);
            Runs.deliverTo(x, 3);
        }
        due.is("none of the next", x.node(3, 3), 0);
        SplitNodes y = Runs.startedThree().object();
        Runs.deliverTo(y, 1);
        Runs.deliverTo(y, 1);
        due.is("node 1 is ahead", y.node(1, 0), 1);
        due.is("its letter to node 0 is taken", y.deliver(4), 0);
        due.is("one of the ROUND ahead does not count yet", y.node(0, 3), 0);
        due.is("round 0's", Runs.deliverTo(y, 0), 0);
        due.is("one", y.node(0, 3), 1);
        due.is("round 0's last", Runs.deliverTo(y, 0), 0);
        due.is("in round 1", y.node(0, 0), 1);
        due.is("now it counts", y.node(0, 3), 1);
    }

    private static void lettersOfEnded() {
        due.sentence("(3; ENDED: those that it had)");
        for (int n = 2; n <= 5; n++) {
            SplitNodes x = new SplitNodes();
            x.nodes(n);
            x.start();
            Runs.deliverFirst(x, n * (n - 1));
            due.is("ended", x.node(0, 1), 1);
            due.is("had", x.node(0, 3), n - 1);
        }
        SplitNodes y = Runs.pairInRound(0, 200).object();
        due.is("ended in ROUND 200", y.node(0, 1), 1);
        due.is("there are none of ROUND 200", y.node(0, 3), 0);
    }

    private static void vertices() {
        due.sentence("VERTICES (4)");
        SplitNodes x = Runs.three().object();
        due.is("of node 0", x.node(0, 4), 2);
        due.is("of node 1", x.node(1, 4), 1);
        x.start();
        x.move(1, 2);
        due.is("of node 0 behind move()", x.node(0, 4), 1);
        due.is("of node 2 behind move()", x.node(2, 4), 2);
        x.crash(2);
        due.is("when down", x.node(2, 4), 2);
        SplitNodes y = new SplitNodes();
        for (int v = 0; v < 16; v++) {
            y.vertex(1, v);
        }
        due.is("all sixteen", y.node(1, 4), 16);
        due.is("none", y.node(0, 4), 0);
    }

    private static void marks() {
        due.sentence("the greatest ROUND of its MARKS (5)");
        SplitNodes x = Runs.pairInRound(3, 8).object();
        due.is("K 3 in round 8", x.node(0, 5), 6);
        x.crash(0);
        due.is("when down", x.node(0, 5), 6);
        x.back();
        due.is("behind back()", x.node(0, 5), 6);
        Runs.empty(x);
        Runs.resendAll(x);
        Runs.deliverFirst(x, 2);
        x.move(0, 0);
        due.is("behind move()", x.node(1, 5), 7);
    }

    private static void noSuchNode() {
        due.sentence("BAD: no such NODE");
        for (int n : new int[] {3, 5, -1, Runs.MIN, Runs.MAX}) {
            for (int k = 0; k < 6; k++) {
                int what = k;
                due.is("node(" + n + ", " + what + ")", Runs.startedThree().ask(x -> x.node(n, what)), Runs.BAD);
            }
        }
    }

    private static void noSuchWhat() {
        due.sentence("BAD: no such what");
        for (int what : new int[] {-1, 6, Runs.MIN, Runs.MAX}) {
            new Script().refuses(due, "node(0, " + what + ") of a new object", x -> x.node(0, what), Runs.BAD);
            Runs.startedThree().refuses(due, "node(0, " + what + ")", x -> x.node(0, what), Runs.BAD);
        }
    }
}
