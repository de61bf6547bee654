/** Promises 18 to 21: of, alone, node, told. */
final class AnswersTest {
    private static final Due due = new Due("AnswersTest");

    public static void main(String[] args) {
        of();
        alone();
        aloneGoesRound();
        aloneWrong();
        node();
        told();
        due.end();
    }

    private static void of() {
        SplitNodes x = Runs.pair(2, 0);
        due.is("18 before start(): value", x.of(0, 0), 1);
        due.is("18 before start(): total", x.of(0, 1), 0);
        due.is("18 before start(): active", x.of(0, 2), 1);
        due.is("18 before start(): node", x.of(1, 3), 1);
        due.is("18 of(2, 0)", x.of(2, 0), Runs.NONE);
        due.is("18 of(-1, 0)", x.of(-1, 0), Runs.NONE);
        due.is("18 of(2, 3)", x.of(2, 3), Runs.NONE);
        due.is("18 of(0, 4)", x.of(0, 4), Runs.NONE);
        due.is("18 of(0, -1)", x.of(0, -1), Runs.NONE);
        x.start();
        Runs.deliverTo(x, 1);
        due.is("18 total behind a round", x.of(1, 1), 1);
        due.is("18 the other's", x.of(0, 1), 0);
        x.crash(1);
        due.is("18 down: value", x.of(1, 0), Runs.NONE);
        due.is("18 down: node", x.of(1, 3), 1);
        due.is("18 down: what 4", x.of(1, 4), Runs.NONE);
    }

    /** Vertices 0 (5), 1 (20), 2 (-4); arcs 0-1 3, 0-1 9, 1-2 -30, 2-2 1, 2-0 2. */
    private static SplitNodes graph(int kind) {
        SplitNodes x = new SplitNodes();
        x.vertex(0, 5);
        x.vertex(1, 20);
        x.vertex(0, -4);
        x.arc(0, 1, 3);
        x.arc(0, 1, 9);
        x.arc(1, 2, -30);
        x.arc(2, 2, 1);
        x.arc(2, 0, 2);
        x.kind(kind);
        return x;
    }

    private static void alone() {
        // Rows: value, total, active of vertices 0, 1, 2 behind a round.
        aloneRow(0, 0, 5, 0, 1, 20, 0, 1, -4, 0, 1);
        aloneRow(0, 1, -2, 0, 1, 8, 0, 1, -10, 0, 1);
        aloneRow(0, 2, -8, 0, 1, 1, 0, 1, -22, 0, 1);
        aloneRow(1, 1, 5, 0, 0, 20, 0, 0, -4, 0, 0);
        aloneRow(1, 2, 5, 0, 0, 20, 0, 0, -4, 0, 0);
        aloneRow(2, 1, -8, -8, 1, 60, 60, 1, -604, -604, 1);
        aloneRow(2, 2, -1208, -1216, 1, -96, -36, 1, -2404, -3008, 1);
        aloneRow(3, 1, -2, 0, 1, 14, 0, 1, -3, 0, 1);
        aloneRow(3, 2, -1, 0, 1, 7, 0, 1, -2, 0, 1);
        zeroIsActiveAtFirstByNoMeansLater();
        latestWithoutMessagesStays();
        widest();
    }

    private static void aloneRow(int kind, int r, int... want) {
        SplitNodes x = graph(kind);
        for (int started = 0; started < 2; started++) {
            for (int v = 0; v < 3; v++) {
                for (int what = 0; what < 3; what++) {
                    String call = "19 kind " + kind + " alone(" + v + ", " + r + ", " + what + ")";
                    due.is(call, x.alone(v, r, what), want[3 * v + what]);
                }
            }
            x.start();
        }
        Runs.deliverFirst(x, 2 * r);
        for (int v = 0; v < 3; v++) {
            int ended = x.node(x.told(2) - 1, 1);
            for (int what = 0; what < 3; what++) {
                due.is("18 kind " + kind + " of(" + v + ", " + what + ")", x.of(v, what), want[3 * v + what]);
            }
            due.is("18 kind " + kind + " ended", ended, kind == 1 && r == 2 ? 1 : 0);
        }
    }

    private static void zeroIsActiveAtFirstByNoMeansLater() {
        SplitNodes x = new SplitNodes();
        x.vertex(0, 0);
        x.vertex(1, 7);
        x.arc(0, 1, 5);
        x.arc(1, 0, 3);
        x.kind(2);
        due.is("19 SUMS: 0 is active at first", x.alone(0, 0, 2), 1);
        due.is("19 SUMS: 0 is not active", x.alone(1, 1, 2), 0);
        due.is("19 SUMS: 0 is the value", x.alone(1, 1, 0), 0);
        due.is("19 SUMS: the same value, active", x.alone(0, 1, 0), 21);
        due.is("19 SUMS: round 2", x.alone(1, 2, 0), 105);
        due.is("19 SUMS: total stays with 0", x.alone(0, 2, 1), 21);
        SplitNodes y = Runs.pair(2, 0);
        due.is("19 SUMS: an unchanged value is active", y.alone(0, 5, 2), 1);
        due.is("19 SUMS: total", y.alone(0, 200, 1), 200);
    }

    private static void latestWithoutMessagesStays() {
        SplitNodes x = new SplitNodes();
        x.vertex(0, 3);
        x.vertex(1, 8);
        x.arc(0, 1, 5);
        x.kind(3);
        due.is("19 LATEST: stays without", x.alone(0, 1, 0), 3);
        due.is("19 LATEST: the same value is not active", x.alone(1, 1, 2), 0);
        due.is("19 LATEST: behind the end", x.alone(1, 200, 0), 8);
        x.arc(0, 1, 900);
        due.is("19 an arc more counts at once", x.alone(1, 1, 0), 903);
        x.kind(0);
        due.is("19 another kind counts at once", x.alone(1, 1, 0), 8);
    }

    private static void widest() {
        SplitNodes x = new SplitNodes();
        x.vertex(0, 50);
        x.vertex(1, 1);
        x.vertex(1, 1);
        x.arc(0, 1, 30);
        x.arc(1, 2, 80);
        x.arc(0, 2, 9);
        x.kind(1);
        due.is("19 WIDEST round 1, vertex 1", x.alone(1, 1, 0), 30);
        due.is("19 WIDEST round 1, vertex 2", x.alone(2, 1, 0), 9);
        due.is("19 WIDEST round 2, vertex 2", x.alone(2, 2, 0), 30);
        due.is("19 WIDEST round 3, active", x.alone(2, 3, 2), 0);
    }

    private static void aloneGoesRound() {
        SplitNodes x = new SplitNodes();
        x.vertex(0, Integer.MAX_VALUE);
        x.vertex(1, Integer.MAX_VALUE);
        x.arc(0, 1, 1);
        x.arc(1, 0, 2);
        due.is("19 goes round by +", x.alone(1, 1, 0), Integer.MIN_VALUE);
        x.kind(2);
        due.is("19 goes round by x", x.alone(0, 1, 0), -2);
        due.is("19 total goes round", x.alone(0, 2, 1), (int) (-2L + 2L * Integer.MAX_VALUE));
    }

    private static void aloneWrong() {
        SplitNodes x = graph(0);
        due.is("19 alone(3, 0, 0)", x.alone(3, 0, 0), Runs.NONE);
        due.is("19 alone(-1, 0, 0)", x.alone(-1, 0, 0), Runs.NONE);
        due.is("19 alone(0, -1, 0)", x.alone(0, -1, 0), Runs.NONE);
        due.is("19 alone(0, 201, 0)", x.alone(0, 201, 0), Runs.NONE);
        due.is("19 alone(0, 0, 3)", x.alone(0, 0, 3), Runs.NONE);
        due.is("19 alone(0, 0, -1)", x.alone(0, 0, -1), Runs.NONE);
        due.is("19 alone(2, 200, 1)", x.alone(2, 200, 1), 0);
        x.start();
        x.crash(0);
        due.is("19 down does not matter", x.alone(0, 1, 0), -2);
        due.is("19 what moved round does not matter", x.alone(0, 0, 0), 5);
    }

    private static void node() {
        SplitNodes x = graph(2);
        int[] before = {0, 0, 0, 0, 2, -1};
        for (int what = 0; what < 6; what++) {
            due.is("20 before start(): node(0, " + what + ")", x.node(0, what), before[what]);
        }
        due.is("20 node(2, 0)", x.node(2, 0), Runs.BAD);
        due.is("20 node(-1, 0)", x.node(-1, 0), Runs.BAD);
        due.is("20 node(0, 6)", x.node(0, 6), Runs.BAD);
        due.is("20 node(0, -1)", x.node(0, -1), Runs.BAD);
        x.start();
        due.is("20 mark at start()", x.node(1, 5), 0);
        Runs.deliverTo(x, 1);
        due.is("20 a letter of the round ahead", x.deliver(1), 0);
        due.is("20 counts not yet", x.node(0, 3), 0);
        due.is("20 round", x.node(1, 0), 1);
        due.is("20 vertices", x.node(1, 4), 1);
        SplitNodes y = new SplitNodes();
        y.nodes(4);
        y.vertex(0, 1);
        y.start();
        Runs.deliverTo(y, 3);
        Runs.deliverTo(y, 3);
        due.is("20 letters of its round", y.node(3, 3), 2);
        Runs.deliverTo(y, 3);
        due.is("20 none of the next", y.node(3, 3), 0);
        due.is("20 not down", y.node(3, 2), 0);
        y.crash(3);
        due.is("20 down", y.node(3, 2), 1);
    }

    private static void told() {
        SplitNodes x = graph(2);
        x.every(7);
        int[] before = {3, 5, 2, 2, 0, 0, 0, 0, 0, 0, 0, 7};
        toldRow("before start()", x, before);
        due.is("21 told(12)", x.told(12), Runs.BAD);
        due.is("21 told(-1)", x.told(-1), Runs.BAD);
        x.start();
        x.copy(0);
        Runs.deliverTo(x, 1);
        Runs.deliverTo(x, 1);
        x.resend(1, 0);
        x.deliver(1);
        x.deliver(x.told(4) - 1);
        x.crash(0);
        x.deliver(0);
        x.back();
        int[] behind = {3, 5, 2, 2, 3, 5, 2, 1, 1, 1, 1, 7};
        toldRow("behind it", x, behind);
        x.nodes(2);
        int[] anew = {0, 0, 2, 0, 0, 0, 0, 0, 0, 0, 0, 0};
        toldRow("anew", x, anew);
    }

    private static void toldRow(String when, SplitNodes x, int[] want) {
        for (int what = 0; what < want.length; what++) {
            due.is("21 " + when + ": told(" + what + ")", x.told(what), want[what]);
        }
    }
}
