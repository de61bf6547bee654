/** Promise 17: move. */
final class Promise17MoveTest {
    private static final Due due = new Due("Promise 17: move");

    public static void main(String[] args) {
        theOneWhereItWas();
        asItIs();
        epochIsOneMore();
        noLettersOfOthers();
        aMarkOfItsRound();
        writesAnew();
        noRoom();
        toItsOwn();
        all16();
        inTheFirstAndLastRound();
        worksOn();
        noSuchVertex();
        noSuchNode();
        notStarted();
        aNodeIsDown();
        aNodeHasEnded();
        inAnotherRound();
        theFirstThatFits();
        due.end();
    }

    /** By SUMS, K 4, in round 1: vertices 0 (5), 1 (4) at node 0, 2 (9) at node 1, none at node 2. */
    private static Script ring() {
        return new Script().then(x -> x.nodes(3))
            .then(x -> x.vertex(0, 2)).then(x -> x.vertex(0, 3)).then(x -> x.vertex(1, 5))
            .then(x -> x.arc(0, 1, 2)).then(x -> x.arc(1, 2, 3)).then(x -> x.arc(2, 0, 1))
            .then(x -> x.kind(2)).then(x -> x.every(4)).then(SplitNodes::start)
            .then(x -> Runs.deliverFirst(x, 6));
    }

    private static void theOneWhereItWas() {
        due.sentence("A VERTEX MOVES to a NODE: the one where it was");
        SplitNodes x = ring().object();
        due.is("move(1, 2)", x.move(1, 2), 0);
        due.is("where it is", x.of(1, 3), 2);
        due.is("vertices there", x.node(2, 4), 1);
        due.is("vertices left", x.node(0, 4), 1);
        due.is("move(1, 1)", x.move(1, 1), 2);
        due.is("move(2, 0)", x.move(2, 0), 1);
        due.is("vertices", x.node(0, 4) * 100 + x.node(1, 4) * 10 + x.node(2, 4), 210);
    }

    private static void asItIs() {
        due.sentence("it is at another NODE, as it is");
        SplitNodes x = ring().object();
        due.is("before", x.of(0, 0) * 10000 + x.of(1, 0) * 100 + x.of(2, 0), 50409);
        x.move(1, 2);
        due.is("value", x.of(1, 0), 4);
        due.is("total", x.of(1, 1), 4);
        due.is("active", x.of(1, 2), 1);
        SplitNodes y = Runs.oneArc(0, 4, 9, 3).then(z -> Runs.deliverFirst(z, 2)).object();
        y.move(0, 1);
        due.is("not active", y.of(0, 2), 0);
        due.is("told as not active", y.letter(y.told(4) - 1, 5), 1);
    }

    private static void epochIsOneMore() {
        due.sentence("EPOCH is one more");
        SplitNodes x = ring().object();
        for (int turn = 1; turn < 8; turn++) {
            x.move(turn % 3, turn / 2 % 3);
            due.is("told(10)", x.told(10), turn);
            due.is("of a letter", x.letter(x.told(4) - 1, 3), turn);
        }
    }

    private static void noLettersOfOthers() {
        due.sentence("no NODE has LETTERS of others");
        SplitNodes x = ring().object();
        x.deliver(0);
        x.deliver(0);
        due.is("some have", x.node(0, 3) + x.node(1, 3) + x.node(2, 3), 2);
        x.move(1, 2);
        for (int n = 0; n < 3; n++) {
            due.is("node(" + n + ", 3)", x.node(n, 3), 0);
        }
        due.is("what is under way is old", x.deliver(0), 1);
    }

    private static void aMarkOfItsRound() {
        due.sentence("each has a MARK of its ROUND as it is, and no other one");
        for (int k : new int[] {0, 4, 50}) {
            SplitNodes x = Runs.pairInRound(k, 5).object();
            due.is("mark before", x.node(0, 5), k == 4 ? 4 : 0);
            x.move(0, 1);
            for (int n = 0; n < 2; n++) {
                due.is("round", x.node(n, 0), 5);
                due.is("mark", x.node(n, 5), 5);
            }
            Runs.empty(x);
            Runs.resendAll(x);
            Runs.deliverFirst(x, 4);
            due.is("two rounds on", x.of(0, 1) * 10 + x.of(1, 1), 77);
            x.crash(1);
            due.is("both were there", x.of(0, 0), Runs.NONE);
            due.is("back()", x.back(), 5);
            due.is("totals as marked", x.of(0, 1) * 10 + x.of(1, 1), 55);
            due.is("where it moved to", x.of(0, 3), 1);
        }
        due.is("a round that K divides", Runs.pairInRound(4, 4).then(x -> x.move(0, 1)).ask(x -> x.node(1, 5)), 4);
    }

    private static void writesAnew() {
        due.sentence("each WRITES its LETTERS of its ROUND anew, by numbers of NODES");
        SplitNodes x = ring().object();
        int written = x.told(5);
        due.is("letters before", x.told(4), 6);
        x.move(1, 2);
        due.is("letters", x.told(4), 12);
        due.is("written", x.told(5), written + 6);
        String[] want = {"0 1 1 1 0 1", "0 2 1 1 1 1 1:10", "1 0 1 1 1 1 0:9", "1 2 1 1 0 1", "2 0 1 1 0 1",
            "2 1 1 1 1 1 2:12"};
        for (int i = 0; i < 6; i++) {
            due.isTrue("letter " + want[i], Runs.letter(x, 6 + i).equals(want[i]));
        }
        for (int n = 0; n < 3; n++) {
            due.is("keeps that of this EPOCH alone", x.resend(n, (n + 1) % 3), 1);
        }
    }

    private static void noRoom() {
        due.sentence("where there is no room it is LOST");
        SplitNodes x = ring().then(Runs::fill).then(y -> y.lose(0)).object();
        int written = x.told(5);
        due.is("move(1, 2)", x.move(1, 2), 0);
        due.is("letters", x.told(4), 60);
        due.is("written", x.told(5), written + 6);
        due.isTrue("the first has room", Runs.letter(x, 59).equals("0 1 1 1 0 1"));
        Runs.empty(x);
        Runs.resendAll(x);
        due.is("all are kept", x.told(4), 6);
        Runs.deliverFirst(x, 6);
        due.is("they go on", x.node(0, 0) + x.node(1, 0) + x.node(2, 0), 6);
    }

    private static void toItsOwn() {
        due.sentence("to a NODE (its own, too)");
        SplitNodes x = ring().object();
        due.is("move(2, 1)", x.move(2, 1), 1);
        due.is("where it is", x.of(2, 3), 1);
        due.is("epoch", x.told(10), 1);
        due.is("letters", x.told(4), 12);
        due.is("mark", x.node(0, 5), 1);
        due.is("of the epoch before", x.deliver(0), 1);
    }

    private static void all16() {
        due.sentence("16 VERTICES may all be at one NODE");
        SplitNodes x = new SplitNodes();
        for (int v = 0; v < 16; v++) {
            x.vertex(v % 2, v);
        }
        for (int v = 0; v < 16; v++) {
            x.arc(v, (v + 1) % 16, 1);
        }
        x.kind(3);
        x.start();
        for (int v = 0; v < 16; v++) {
            due.is("move(" + v + ", 1)", x.move(v, 1), v % 2);
            Runs.empty(x);
        }
        due.is("vertices", x.node(1, 4) * 100 + x.node(0, 4), 1600);
        Runs.resendAll(x);
        due.is("active ones told", x.letter(1, 5), 16);
        due.is("no entries", x.letter(0, 4) + x.letter(1, 4), 0);
        Runs.deliverFirst(x, 2);
        for (int v = 0; v < 16; v++) {
            due.is("value of " + v, x.of(v, 0), x.alone(v, 1, 0));
        }
    }

    private static void inTheFirstAndLastRound() {
        due.sentence("in ROUND 0 and in ROUND 199, too");
        SplitNodes x = Runs.startedPair(0).object();
        due.is("in round 0", x.move(0, 1), 0);
        due.is("of round 0", x.letter(2, 2), 0);
        SplitNodes y = Runs.pairInRound(50, 199).object();
        due.is("in round 199", y.move(0, 1), 0);
        due.is("of round 199", y.letter(2, 2), 199);
        due.is("mark of 199", y.node(0, 5), 199);
        Runs.deliverFirst(y, 4);
        due.is("both in 200", y.node(0, 0) + y.node(1, 0), 400);
        due.is("totals", y.of(0, 1) + y.of(1, 1), 400);
        y.crash(0);
        due.is("back()", y.back(), 199);
    }

    private static void worksOn() {
        due.sentence("each round's values are those of one node alone");
        for (int kind = 0; kind < 4; kind++) {
            int k = kind;
            SplitNodes x = Runs.three().then(y -> y.arc(2, 0, 3)).then(y -> y.arc(3, 3, 1))
                .then(y -> y.kind(k)).then(SplitNodes::start).object();
            for (int round = 1; round < 6; round++) {
                x.move(round % 4, round % 3);
                Runs.empty(x);
                Runs.resendAll(x);
                Runs.deliverFirst(x, 6);
                int now = x.node(0, 0);
                for (int v = 0; v < 4; v++) {
                    due.is("kind " + k + " value", x.of(v, 0), x.alone(v, now, 0));
                    due.is("kind " + k + " total", x.of(v, 1), x.alone(v, now, 1));
                    due.is("kind " + k + " active", x.of(v, 2), x.alone(v, now, 2));
                }
            }
        }
    }

    private static void noSuchVertex() {
        due.sentence("BAD: no such VERTEX");
        Script none = new Script().then(SplitNodes::start);
        none.refuses(due, "move(0, 0) without vertices", x -> x.move(0, 0), Runs.BAD);
        for (int v : new int[] {3, 16, -1, Runs.MIN, Runs.MAX}) {
            ring().refuses(due, "move(" + v + ", 0)", x -> x.move(v, 0), Runs.BAD);
        }
    }

    private static void noSuchNode() {
        due.sentence("BAD: no such NODE");
        for (int n : new int[] {3, 5, -1, Runs.MIN, Runs.MAX}) {
            ring().refuses(due, "move(0, " + n + ")", x -> x.move(0, n), Runs.BAD);
        }
    }

    private static void notStarted() {
        due.sentence("STATE: not started");
        Runs.three().refuses(due, "move(0, 1)", x -> x.move(0, 1), Runs.STATE);
        Runs.three().refuses(due, "move(0, 0)", x -> x.move(0, 0), Runs.STATE);
    }

    private static void aNodeIsDown() {
        due.sentence("STATE: a NODE is DOWN");
        for (int i = 0; i < 3; i++) {
            int n = i;
            Script down = ring().then(x -> x.crash(n));
            down.refuses(due, "move(1, 2)", x -> x.move(1, 2), Runs.STATE);
            due.is("behind back()", down.then(SplitNodes::back).ask(x -> x.move(1, 2)), 0);
        }
    }

    private static void aNodeHasEnded() {
        due.sentence("STATE: a NODE has ENDED");
        for (int i = 0; i < 2; i++) {
            int n = i;
            Script script = new Script().then(x -> x.vertex(0, 1)).then(SplitNodes::start)
                .then(x -> Runs.deliverFirst(x, 2)).then(x -> Runs.deliverTo(x, n));
            due.is("it alone has ended", script.ask(x -> x.node(n, 1) * 10 + x.node(1 - n, 1)), 10);
            due.is("all are in round 1", script.ask(x -> x.node(0, 0) * 10 + x.node(1, 0)), 11);
            script.refuses(due, "move(0, 1)", x -> x.move(0, 1), Runs.STATE);
        }
        Runs.ended().refuses(due, "move(0, 1) when all have", x -> x.move(0, 1), Runs.STATE);
        Runs.pairInRound(0, 200).refuses(due, "move(0, 1) in ROUND 200", x -> x.move(0, 1), Runs.STATE);
    }

    private static void inAnotherRound() {
        due.sentence("STATE: a NODE is in another ROUND than NODE 0");
        for (int i = 0; i < 3; i++) {
            int n = i;
            Script script = ring().then(x -> Runs.deliverTo(x, n)).then(x -> Runs.deliverTo(x, n));
            due.is("it is ahead", script.ask(x -> x.node(n, 0)), 2);
            script.refuses(due, "move(1, 2)", x -> x.move(1, 2), Runs.STATE);
        }
        due.is("in one ROUND again", ring().then(x -> Runs.deliverFirst(x, 6)).ask(x -> x.move(1, 2)), 0);
    }

    private static void theFirstThatFits() {
        due.sentence("the first that fits");
        due.is("BAD before not started", Runs.three().ask(x -> x.move(4, 0)), Runs.BAD);
        due.is("BAD before not started", Runs.three().ask(x -> x.move(0, 3)), Runs.BAD);
        due.is("BAD before DOWN", ring().then(x -> x.crash(0)).ask(x -> x.move(0, 3)), Runs.BAD);
        due.is("BAD before ENDED", Runs.ended().ask(x -> x.move(2, 0)), Runs.BAD);
    }
}
