/** Promise 18: of. */
final class Promise18OfTest {
    private static final Due due = new Due("Promise 18: of");

    public static void main(String[] args) {
        whatItTells();
        byTheRoundOfItsNode();
        noSuchVertex();
        noSuchWhat();
        ofANodeThatIsDown();
        due.end();
    }

    private static void whatItTells() {
        due.sentence("VALUE (what = 0), TOTAL (1), ACTIVE (2: 1, 0), its NODE (3)");
        SplitNodes x = Runs.oneArc(2, 4, 10, 5).object();
        int[][] first = {{4, 0, 1, 0}, {10, 0, 1, 1}};
        int[][] then = {{0, 0, 0, 0}, {20, 20, 1, 1}};
        row(x, first);
        Runs.deliverFirst(x, 2);
        row(x, then);
        row(Runs.pair(2, 0).object(), new int[][] {{1, 0, 1, 0}, {1, 0, 1, 1}});
    }

    private static void row(SplitNodes x, int[][] want) {
        for (int v = 0; v < 2; v++) {
            for (int what = 0; what < 4; what++) {
                due.is("of(" + v + ", " + what + ")", x.of(v, what), want[v][what]);
            }
        }
    }

    private static void byTheRoundOfItsNode() {
        due.sentence("who misses one waits");
        SplitNodes x = Runs.startedPair(0).object();
        Runs.deliverTo(x, 1);
        due.is("of the one that goes on", x.of(1, 1), 1);
        due.is("of the one that waits", x.of(0, 1), 0);
    }

    private static void noSuchVertex() {
        due.sentence("NONE: no such VERTEX");
        for (int v : new int[] {4, 16, -1, Runs.MIN, Runs.MAX}) {
            for (int k = 0; k < 4; k++) {
                int what = k;
                due.is("of(" + v + ", " + what + ")", Runs.startedThree().ask(x -> x.of(v, what)), Runs.NONE);
            }
        }
        due.is("of(3, 3)", Runs.startedThree().ask(x -> x.of(3, 3)), 2);
        due.is("of(0, 0) behind nodes()", Runs.startedThree().then(x -> x.nodes(3)).ask(x -> x.of(0, 0)), Runs.NONE);
        due.is("of(0, 3) behind nodes()", Runs.startedThree().then(x -> x.nodes(3)).ask(x -> x.of(0, 3)), Runs.NONE);
    }

    private static void noSuchWhat() {
        due.sentence("NONE: no such what");
        for (int what : new int[] {-1, 4, Runs.MIN, Runs.MAX}) {
            Runs.startedThree().refuses(due, "of(0, " + what + ")", x -> x.of(0, what), Runs.NONE);
            Script down = Runs.startedThree().then(x -> x.crash(0));
            due.is("of(0, " + what + ") when down", down.ask(x -> x.of(0, what)), Runs.NONE);
        }
    }

    private static void ofANodeThatIsDown() {
        due.sentence("NONE: 0 to 2 of a NODE that is DOWN");
        SplitNodes x = Runs.startedThree().then(y -> y.crash(0)).object();
        for (int v = 0; v < 4; v++) {
            for (int what = 0; what < 3; what++) {
                due.is("told: of(" + v + ", " + what + ")", x.of(v, what) == Runs.NONE ? 0 : 1, v < 2 ? 0 : 1);
            }
            due.is("of(" + v + ", 3)", x.of(v, 3), v < 2 ? 0 : v - 1);
        }
        x.back();
        due.is("behind back()", x.of(0, 0), 4);
    }
}
