/** Promise 3: vertex. */
final class Promise03VertexTest {
    private static final Due due = new Due("Promise 3: vertex");

    public static void main(String[] args) {
        itsNumber();
        anInt();
        totalAndActive();
        noSuchNode();
        started();
        full();
        theFirstThatFits();
        due.end();
    }

    private static Script sixteen() {
        return new Script().then(x -> {
            for (int v = 0; v < 16; v++) {
                x.vertex(v % 2, v);
            }
        });
    }

    private static void itsNumber() {
        due.sentence("VERTICES 0, 1, .. (16 at most): its number");
        SplitNodes x = new SplitNodes();
        for (int v = 0; v < 16; v++) {
            due.is("vertex " + v, x.vertex(v % 2, 100 - v), v);
            due.is("told(0)", x.told(0), v + 1);
        }
        for (int v = 0; v < 16; v++) {
            due.is("value of " + v, x.of(v, 0), 100 - v);
            due.is("node of " + v, x.of(v, 3), v % 2);
        }
    }

    private static void anInt() {
        due.sentence("a VALUE (an int, at first as told)");
        for (int value : new int[] {Runs.MIN, Runs.MAX, 0, -1}) {
            SplitNodes x = new SplitNodes();
            due.is("vertex(0, " + value + ")", x.vertex(0, value), 0);
            due.is("of(0, 0)", x.of(0, 0), value);
            due.is("alone(0, 0, 0)", x.alone(0, 0, 0), value);
            x.start();
            due.is("of(0, 0) behind start()", x.of(0, 0), value);
        }
    }

    private static void totalAndActive() {
        due.sentence("a TOTAL (an int, 0 at first), and are ACTIVE or not (at first they are)");
        SplitNodes x = new SplitNodes();
        x.kind(2);
        x.vertex(0, 0);
        x.vertex(1, 7);
        for (int v = 0; v < 2; v++) {
            due.is("total", x.of(v, 1), 0);
            due.is("active, be it of value 0 by SUMS", x.of(v, 2), 1);
        }
        x.start();
        due.is("active behind start()", x.of(0, 2), 1);
        due.is("told as active", x.letter(0, 5), 1);
    }

    private static void noSuchNode() {
        due.sentence("at a NODE (0 .. N - 1). BAD");
        for (int i = 2; i <= 5; i++) {
            int n = i;
            Script script = new Script().then(x -> x.nodes(n));
            due.is("the first node", script.ask(x -> x.vertex(0, 1)), 0);
            due.is("the last node", script.ask(x -> x.vertex(n - 1, 1)), 0);
            for (int node : new int[] {n, n + 1, -1, Runs.MIN, Runs.MAX}) {
                script.refuses(due, n + " nodes, vertex(" + node + ", 1)", x -> x.vertex(node, 1), Runs.BAD);
            }
        }
    }

    private static void started() {
        due.sentence("STATE: started");
        Script[] states = {new Script().then(SplitNodes::start), Runs.startedPair(0), Runs.ended(),
            Runs.startedPair(0).then(x -> x.crash(0))};
        for (Script state : states) {
            state.refuses(due, "vertex(0, 1)", x -> x.vertex(0, 1), Runs.STATE);
        }
        due.is("not behind nodes()", states[1].then(x -> x.nodes(2)).ask(x -> x.vertex(0, 1)), 0);
    }

    private static void full() {
        due.sentence("16 at most: FULL");
        sixteen().refuses(due, "a seventeenth", x -> x.vertex(1, 5), Runs.FULL);
        due.is("the sixteenth works", sixteen().then(SplitNodes::start).ask(x -> x.of(15, 0)), 15);
    }

    private static void theFirstThatFits() {
        due.sentence("the first that fits");
        due.is("BAD before FULL", sixteen().ask(x -> x.vertex(2, 0)), Runs.BAD);
        Script started = sixteen().then(SplitNodes::start);
        due.is("BAD before STATE", started.ask(x -> x.vertex(2, 0)), Runs.BAD);
        due.is("STATE before FULL", started.ask(x -> x.vertex(1, 0)), Runs.STATE);
    }
}
