/** Promise 19: alone. */
final class Promise19AloneTest {
    private static final Due due = new Due("Promise 19: alone");

    public static void main(String[] args) {
        behindRounds();
        goingRound();
        roundsFrom0To200();
        whetherItHadEndedOrNot();
        whateverComesBetween();
        changesNothing();
        itsGraphIsThatOfNow();
        noSuchVertex();
        noSuchRound();
        noSuchWhat();
        due.end();
    }

    /** Vertices 0 (5), 1 (20), 2 (-4); arcs 0-1 3, 0-1 9, 1-2 -30, 2-2 1, 2-0 2. */
    private static Script graph(int kind) {
        return new Script()
            .then(x -> x.vertex(0, 5)).then(x -> x.vertex(1, 20)).then(x -> x.vertex(0, -4))
            .then(x -> x.arc(0, 1, 3)).then(x -> x.arc(0, 1, 9)).then(x -> x.arc(1, 2, -30))
            .then(x -> x.arc(2, 2, 1)).then(x -> x.arc(2, 0, 2)).then(x -> x.kind(kind));
    }

    private static void behindRounds() {
        due.sentence("What of() (0 to 2) would tell behind r ROUNDS if all VERTICES were at one NODE");
        // Value, total, active of vertices 0, 1, 2.
        row(0, 0, 5, 0, 1, 20, 0, 1, -4, 0, 1);
        row(0, 1, -2, 0, 1, 8, 0, 1, -10, 0, 1);
        row(0, 2, -8, 0, 1, 1, 0, 1, -22, 0, 1);
        row(1, 0, 5, 0, 1, 20, 0, 1, -4, 0, 1);
        row(1, 1, 5, 0, 0, 20, 0, 0, -4, 0, 0);
        row(1, 2, 5, 0, 0, 20, 0, 0, -4, 0, 0);
        row(2, 0, 5, 0, 1, 20, 0, 1, -4, 0, 1);
        row(2, 1, -8, -8, 1, 60, 60, 1, -604, -604, 1);
        row(2, 2, -1208, -1216, 1, -96, -36, 1, -2404, -3008, 1);
        row(3, 0, 5, 0, 1, 20, 0, 1, -4, 0, 1);
        row(3, 1, -2, 0, 1, 14, 0, 1, -3, 0, 1);
        row(3, 2, -1, 0, 1, 7, 0, 1, -2, 0, 1);
        whoIsNotActive();
    }

    /** Vertex 0 has the greatest arc to vertex 2 but is active in round 0 alone; vertex 1 always is. */
    private static void whoIsNotActive() {
        SplitNodes x = new SplitNodes();
        for (int v = 0; v < 3; v++) {
            x.vertex(0, 0);
        }
        x.arc(1, 1, 1);
        x.arc(1, 2, 10);
        x.arc(0, 2, 100);
        x.kind(3);
        due.is("all send in round 0", x.alone(2, 1, 0), 100);
        due.is("who is not active does not", x.alone(2, 2, 0), 11);
    }

    private static void row(int kind, int r, int... want) {
        SplitNodes before = graph(kind).object();
        SplitNodes x = graph(kind).then(SplitNodes::start).then(y -> Runs.deliverFirst(y, 2 * r)).object();
        for (int v = 0; v < 3; v++) {
            for (int what = 0; what < 3; what++) {
                String call = "kind " + kind + " alone(" + v + ", " + r + ", " + what + ")";
                due.is(call + " before start()", before.alone(v, r, what), want[3 * v + what]);
                due.is(call, x.alone(v, r, what), want[3 * v + what]);
                due.is(call + " and of()", x.of(v, what), want[3 * v + what]);
            }
        }
    }

    private static void goingRound() {
        due.sentence("All ints, going round");
        SplitNodes x = new SplitNodes();
        x.vertex(0, Runs.MAX);
        x.vertex(1, Runs.MAX);
        x.arc(0, 1, 1);
        x.arc(1, 0, 2);
        due.is("by +", x.alone(1, 1, 0), Runs.MIN);
        x.kind(2);
        due.is("by x", x.alone(0, 1, 0), -2);
        due.is("value behind two", x.alone(0, 2, 0), -2);
        due.is("total", x.alone(0, 2, 1), -4);
    }

    private static void roundsFrom0To200() {
        due.sentence("behind r ROUNDS (0 .. 200)");
        SplitNodes x = Runs.pair(2, 0).object();
        for (int r : new int[] {0, 1, 199, 200}) {
            due.is("alone(0, " + r + ", 1)", x.alone(0, r, 1), r);
        }
        due.is("active behind 200", x.alone(0, 200, 2), 1);
        SplitNodes y = Runs.pairInRound(0, 200).object();
        due.is("of() in ROUND 200", y.of(0, 1), y.alone(0, 200, 1));
    }

    private static void whetherItHadEndedOrNot() {
        due.sentence("whether it had ENDED or not");
        SplitNodes x = Runs.ended().object();
        for (int r : new int[] {1, 2, 200}) {
            due.is("value", x.alone(1, r, 0), 5);
            due.is("active", x.alone(1, r, 2), 0);
        }
        SplitNodes y = Runs.oneArc(2, 4, 10, 5).object();
        due.is("SUMS, total behind 1", y.alone(1, 1, 1), 20);
        for (int r : new int[] {2, 3, 200}) {
            due.is("SUMS, value", y.alone(1, r, 0), 0);
            due.is("SUMS, total", y.alone(1, r, 1), 20);
        }
        due.is("LATEST, behind 200", Runs.oneArc(3, 4, 10, 5).ask(z -> z.alone(1, 200, 0)), 9);
    }

    private static void whateverComesBetween() {
        due.sentence("Whatever comes between");
        Script begun = graph(2).then(SplitNodes::start);
        Script[] states = {begun, begun.then(x -> x.crash(0)), begun.then(x -> x.move(0, 1)),
            begun.then(x -> Runs.deliverFirst(x, 4)).then(x -> x.crash(1)).then(SplitNodes::back),
            begun.then(Runs::empty), begun.then(x -> x.joined(true)), graph(2).then(x -> x.joined(true))};
        for (Script state : states) {
            due.is("alone(0, 2, 0)", state.ask(x -> x.alone(0, 2, 0)), -1208);
            due.is("alone(2, 2, 1)", state.ask(x -> x.alone(2, 2, 1)), -3008);
            due.is("alone(1, 0, 0)", state.ask(x -> x.alone(1, 0, 0)), 20);
        }
    }

    private static void changesNothing() {
        due.sentence("it is asked, nothing changes");
        Script begun = graph(2).then(SplitNodes::start).then(x -> Runs.deliverFirst(x, 3));
        begun.isSame(due, "alone(0, 200, 0)", begun.then(x -> x.alone(0, 200, 0)));
        SplitNodes x = begun.object();
        due.is("first", x.alone(0, 2, 0), -1208);
        due.is("a later round", x.alone(0, 200, 2), x.alone(0, 200, 2));
        due.is("an earlier round", x.alone(0, 1, 0), -8);
        due.is("the same again", x.alone(0, 2, 0), -1208);
    }

    private static void itsGraphIsThatOfNow() {
        due.sentence("VERTICES, ARCS and the KIND as they are now");
        SplitNodes x = new SplitNodes();
        x.vertex(0, 3);
        x.vertex(1, 8);
        x.kind(3);
        due.is("no arcs", x.alone(1, 1, 0), 8);
        x.arc(0, 1, 5);
        due.is("one arc", x.alone(1, 1, 0), 8);
        x.arc(0, 1, 900);
        due.is("two arcs", x.alone(1, 1, 0), 903);
        x.kind(0);
        due.is("another kind", x.alone(1, 1, 0), 8);
        x.nodes(2);
        x.vertex(0, 6);
        due.is("another graph", x.alone(0, 1, 0), 6);
        due.is("its vertices", x.alone(1, 1, 0), Runs.NONE);
    }

    private static void noSuchVertex() {
        due.sentence("NONE: no such VERTEX");
        due.is("without vertices", new Script().ask(x -> x.alone(0, 0, 0)), Runs.NONE);
        for (int v : new int[] {3, 16, -1, Runs.MIN, Runs.MAX}) {
            due.is("alone(" + v + ", 0, 0)", graph(0).ask(x -> x.alone(v, 0, 0)), Runs.NONE);
            due.is("alone(" + v + ", 200, 1)", graph(0).ask(x -> x.alone(v, 200, 1)), Runs.NONE);
        }
    }

    private static void noSuchRound() {
        due.sentence("NONE: no such ROUND");
        for (int r : new int[] {-1, 201, Runs.MIN, Runs.MAX}) {
            for (int k = 0; k < 3; k++) {
                int what = k;
                due.is("alone(0, " + r + ", " + what + ")", graph(0).ask(x -> x.alone(0, r, what)), Runs.NONE);
            }
        }
    }

    private static void noSuchWhat() {
        due.sentence("NONE: no such what (0 to 2)");
        for (int what : new int[] {-1, 3, 4, Runs.MIN, Runs.MAX}) {
            for (int r : new int[] {0, 2, 200}) {
                due.is("alone(0, " + r + ", " + what + ")", graph(0).ask(x -> x.alone(0, r, what)), Runs.NONE);
            }
        }
    }
}
