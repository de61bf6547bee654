/** Promise 8: start. */
final class Promise08StartTest {
    private static final Due due = new Due("Promise 8: start");

    public static void main(String[] args) {
        howManyLetters();
        node0First();
        roundAndEpoch0();
        withoutVertices();
        whenStarted();
        due.end();
    }

    private static void howManyLetters() {
        due.sentence("how many LETTERS are in THE NET");
        for (int n = 2; n <= 5; n++) {
            SplitNodes x = new SplitNodes();
            x.nodes(n);
            due.is("start() with " + n, x.start(), n * (n - 1));
            due.is("told(4)", x.told(4), n * (n - 1));
            due.is("told(5)", x.told(5), n * (n - 1));
        }
    }

    private static void node0First() {
        due.sentence("NODE 0 first; WRITES a LETTER to each other NODE, by their numbers");
        for (int n = 2; n <= 5; n++) {
            SplitNodes x = new SplitNodes();
            x.nodes(n);
            x.start();
            int i = 0;
            for (int from = 0; from < n; from++) {
                for (int to = 0; to < n; to++) {
                    if (from != to) {
                        due.is("letter(" + i + ", 0)", x.letter(i, 0), from);
                        due.is("letter(" + i + ", 1)", x.letter(i, 1), to);
                        i++;
                    }
                }
            }
        }
    }

    private static void roundAndEpoch0() {
        due.sentence("all NODES are in ROUND 0, EPOCH 0; comes into a ROUND (0, too)");
        SplitNodes x = Runs.startedThree().object();
        due.is("epoch", x.told(10), 0);
        for (int n = 0; n < 3; n++) {
            due.is("round", x.node(n, 0), 0);
            due.is("ended", x.node(n, 1), 0);
            due.is("down", x.node(n, 2), 0);
            due.is("letters", x.node(n, 3), 0);
            due.is("mark of round 0", x.node(n, 5), 0);
        }
        for (int i = 0; i < 6; i++) {
            due.is("round of letter " + i, x.letter(i, 2), 0);
            due.is("epoch of letter " + i, x.letter(i, 3), 0);
        }
    }

    private static void withoutVertices() {
        due.sentence("without VERTICES none is ACTIVE: they end in ROUND 0");
        for (int n = 2; n <= 5; n++) {
            SplitNodes x = new SplitNodes();
            x.nodes(n);
            x.start();
            due.is("entries", x.letter(0, 4), 0);
            due.is("active ones told", x.letter(0, 5), 0);
            Runs.deliverFirst(x, n * (n - 1));
            due.is("nothing more is written", x.told(5), n * (n - 1));
            for (int node = 0; node < n; node++) {
                due.is("round", x.node(node, 0), 0);
                due.is("ended", x.node(node, 1), 1);
                due.is("letters that it had", x.node(node, 3), n - 1);
            }
        }
    }

    private static void whenStarted() {
        due.sentence("STATE: started");
        Script[] states = {new Script().then(SplitNodes::start), Runs.startedPair(2), Runs.ended(),
            Runs.startedThree().then(x -> x.crash(1)), Runs.pairInRound(1, 200),
            Runs.startedPair(0).then(Runs::empty)};
        for (Script state : states) {
            state.refuses(due, "start()", SplitNodes::start, Runs.STATE);
        }
        due.is("not behind nodes()", states[2].then(x -> x.nodes(2)).ask(SplitNodes::start), 2);
    }
}
