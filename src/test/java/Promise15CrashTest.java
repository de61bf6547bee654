/** Promise 15: crash. */
final class Promise15CrashTest {
    private static final Due due = new Due("Promise 15: crash");

    public static void main(String[] args) {
        aNodeIsDown();
        itsRoundIsToldAsItWas();
        endedAndLettersAre0();
        allButItsMarks();
        keepsNoLetters();
        theNetStays();
        allMayBeDown();
        noSuchNode();
        notStarted();
        itIsDown();
        theFirstThatFits();
        due.end();
    }

    private static void aNodeIsDown() {
        due.sentence("A NODE is DOWN: 1");
        for (int n = 0; n < 3; n++) {
            SplitNodes x = Runs.startedThree().object();
            due.is("crash(" + n + ")", x.crash(n), 1);
            for (int other = 0; other < 3; other++) {
                due.is("node(" + other + ", 2)", x.node(other, 2), other == n ? 1 : 0);
            }
        }
        due.is("one that has ended", Runs.ended().ask(x -> x.crash(0)), 1);
        due.is("one in ROUND 200", Runs.pairInRound(0, 200).ask(x -> x.crash(1)), 1);
    }

    private static void itsRoundIsToldAsItWas() {
        due.sentence("its ROUND is told as it was");
        SplitNodes x = Runs.pairInRound(2, 5).then(y -> Runs.deliverTo(y, 0)).object();
        x.crash(0);
        due.is("round", x.node(0, 0), 6);
        due.is("the other one's", x.node(1, 0), 5);
        due.is("of an ended one", Runs.ended().then(y -> y.crash(0)).ask(y -> y.node(0, 0)), 1);
        due.is("of one in 200", Runs.pairInRound(0, 200).then(y -> y.crash(0)).ask(y -> y.node(0, 0)), 200);
    }

    private static void endedAndLettersAre0() {
        due.sentence("ENDED, LETTERS that it has: 0");
        SplitNodes x = Runs.startedThree().object();
        x.deliver(0);
        due.is("has a letter", x.node(1, 3), 1);
        x.crash(1);
        due.is("has it no more", x.node(1, 3), 0);
        due.is("ended", x.node(1, 1), 0);
        SplitNodes y = Runs.ended().object();
        due.is("had ended, and a letter", y.node(0, 1) * 10 + y.node(0, 3), 11);
        y.crash(0);
        due.is("has not ended any more", y.node(0, 1), 0);
        due.is("has no letter any more", y.node(0, 3), 0);
        due.is("the other one has", y.node(1, 1) * 10 + y.node(1, 3), 11);
    }

    private static void allButItsMarks() {
        due.sentence("A NODE that is DOWN has lost all but its MARKS");
        SplitNodes x = Runs.pairInRound(2, 5).then(y -> y.crash(0)).object();
        for (int what = 0; what < 3; what++) {
            due.is("of(0, " + what + ")", x.of(0, what), Runs.NONE);
        }
        due.is("its mark", x.node(0, 5), 4);
        due.is("its vertices", x.node(0, 4), 1);
        due.is("where a vertex is", x.of(0, 3), 0);
        due.is("the other one's total", x.of(1, 1), 5);
        due.is("alone", x.alone(0, 5, 1), 5);
        due.is("back()", x.back(), 4);
        due.is("total as marked", x.of(0, 1), 4);
    }

    private static void keepsNoLetters() {
        due.sentence("has lost all: the LETTERS that it keeps, and those of the ROUND ahead");
        SplitNodes x = Runs.startedPair(0).object();
        x.deliver(0);
        due.is("node 0 takes one ahead", x.deliver(1), 0);
        x.crash(0);
        due.is("resend(0, 1)", x.resend(0, 1), Runs.STATE);
        x.back();
        Runs.empty(x);
        Runs.resendAll(x);
        due.is("behind back() one each way", x.told(4), 2);
        due.is("node 1 to node 0", Runs.deliverTo(x, 0), 0);
        due.is("one round on, not two", x.node(0, 0), 1);
    }

    private static void theNetStays() {
        due.sentence("what it WROTE before can still be taken");
        SplitNodes x = Runs.startedPair(0).then(y -> y.crash(0)).object();
        due.is("letters", x.told(4), 2);
        due.is("taken", x.deliver(0), 0);
        due.is("the other one goes on", x.node(1, 0), 1);
        due.is("epoch stays", x.told(10), 0);
    }

    private static void allMayBeDown() {
        due.sentence("each may be DOWN");
        SplitNodes x = Runs.startedThree().object();
        for (int n = 0; n < 3; n++) {
            due.is("crash(" + n + ")", x.crash(n), 1);
        }
        for (int i = 0; i < 6; i++) {
            due.is("deliver(0)", x.deliver(0), 3);
        }
        due.is("back()", x.back(), 0);
        for (int n = 0; n < 3; n++) {
            due.is("not down any more", x.node(n, 2), 0);
            due.is("crash(" + n + ") again", x.crash(n), 1);
        }
    }

    private static void noSuchNode() {
        due.sentence("BAD");
        for (int n : new int[] {3, 5, -1, Runs.MIN, Runs.MAX}) {
            Runs.startedThree().refuses(due, "crash(" + n + ")", x -> x.crash(n), Runs.BAD);
        }
    }

    private static void notStarted() {
        due.sentence("STATE: not started");
        new Script().refuses(due, "crash(0)", x -> x.crash(0), Runs.STATE);
        Runs.three().refuses(due, "crash(2)", x -> x.crash(2), Runs.STATE);
        Script anew = Runs.startedThree().then(x -> x.nodes(3));
        anew.refuses(due, "crash(0) behind nodes()", x -> x.crash(0), Runs.STATE);
    }

    private static void itIsDown() {
        due.sentence("STATE: it is DOWN");
        Script down = Runs.pairInRound(2, 3).then(x -> x.crash(1));
        down.refuses(due, "crash(1)", x -> x.crash(1), Runs.STATE);
        due.is("the other one", down.ask(x -> x.crash(0)), 1);
        due.is("behind back()", down.then(SplitNodes::back).ask(x -> x.crash(1)), 1);
    }

    private static void theFirstThatFits() {
        due.sentence("the first that fits");
        due.is("BAD before STATE", new Script().ask(x -> x.crash(2)), Runs.BAD);
        due.is("BAD before STATE", new Script().ask(x -> x.crash(-1)), Runs.BAD);
    }
}
