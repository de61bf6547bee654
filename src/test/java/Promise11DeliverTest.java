/** Promise 11: deliver. */
final class Promise11DeliverTest {
    private static final Due due = new Due("Promise 11: deliver");

    public static void main(String[] args) {
        noSuchLetter();
        goesOutOfTheNet();
        gone();
        goneFirst();
        oldByEpoch();
        oldByRound();
        oldByEnd();
        twice();
        twiceAhead();
        notTwice();
        allOthers();
        due.end();
    }

    private static void noSuchLetter() {
        due.sentence("BAD");
        Runs.three().refuses(due, "deliver(0) before start()", x -> x.deliver(0), Runs.BAD);
        Runs.ended().refuses(due, "deliver(0) of an empty net", x -> x.deliver(0), Runs.BAD);
        for (int i : new int[] {6, 60, -1, Runs.MIN, Runs.MAX}) {
            Runs.startedThree().refuses(due, "deliver(" + i + ")", x -> x.deliver(i), Runs.BAD);
        }
        Script full = Runs.startedThree().then(Runs::fill);
        full.refuses(due, "deliver(60) of a full net", x -> x.deliver(60), Runs.BAD);
        due.is("deliver(59) of a full net", full.ask(x -> x.deliver(59)), 0);
    }

    private static void goesOutOfTheNet() {
        due.sentence("A LETTER that is delivered goes out of THE NET");
        SplitNodes x = Runs.startedThree().object();
        x.copy(2);
        due.is("taken", x.deliver(2), 0);
        due.is("told(4)", x.told(4), 6);
        due.is("what was behind comes up", x.letter(2, 1), 2);
        due.is("what was before stays", x.letter(1, 1), 2);
        due.is("twice", x.deliver(5), 2);
        due.is("told(4)", x.told(4), 5);
        x.crash(1);
        due.is("gone", x.deliver(0), 3);
        due.is("told(4)", x.told(4), 4);
        x.back();
        due.is("told(4)", x.told(4), 10);
        due.is("old", x.deliver(0), 1);
        due.is("told(4)", x.told(4), 9);
    }

    private static void gone() {
        due.sentence("It is GONE (3) if the NODE is DOWN");
        SplitNodes x = Runs.startedThree().then(y -> y.crash(1)).object();
        due.is("to the one that is down", x.deliver(0), 3);
        due.is("to another one", x.deliver(0), 0);
        due.is("of the one that is down", x.deliver(1), 0);
        due.is("the one that is down has none", x.node(1, 3), 0);
        due.is("told(9)", x.told(9), 1);
    }

    private static void goneFirst() {
        due.sentence("GONE (3) if the NODE is DOWN; else OLD");
        SplitNodes x = Runs.startedPair(0).then(y -> y.crash(0)).then(SplitNodes::back).object();
        x.crash(1);
        due.is("of another EPOCH", x.deliver(0), 3);
        SplitNodes y = Runs.startedPair(0).object();
        y.copy(0);
        y.deliver(0);
        y.crash(1);
        due.is("of a ROUND before", y.deliver(1), 3);
        SplitNodes z = Runs.ended().object();
        z.resend(0, 1);
        z.crash(1);
        due.is("had ended", z.deliver(1), 3);
        SplitNodes w = Runs.startedThree().object();
        w.copy(0);
        w.deliver(0);
        w.crash(1);
        due.is("had it already", Runs.deliverLast(w), 3);
    }

    private static void oldByEpoch() {
        due.sentence("OLD (1) if it is of another EPOCH");
        SplitNodes x = Runs.startedThree().then(y -> y.move(0, 0)).object();
        due.is("of the same ROUND", x.deliver(0), 1);
        due.is("it is not taken", x.node(1, 3), 0);
        due.is("told(7)", x.told(7), 1);
        SplitNodes y = Runs.pairInRound(0, 3).then(z -> z.crash(0)).then(SplitNodes::back).object();
        due.is("of a ROUND that is to come", y.letter(0, 2), 3);
        due.is("of a ROUND that is to come: old", y.deliver(0), 1);
        SplitNodes z = Runs.pairInRound(1, 3).then(w -> Runs.deliverTo(w, 1)).object();
        z.crash(0);
        due.is("m", z.back(), 3);
        due.is("of the next ROUND", z.letter(1, 2), 4);
        due.is("of the next ROUND: old", z.deliver(1), 1);
    }

    private static void oldByRound() {
        due.sentence("OLD (1) if it is of a ROUND before the NODE's");
        SplitNodes x = Runs.startedPair(0).object();
        x.copy(0);
        x.deliver(0);
        due.is("round of the node", x.node(1, 0), 1);
        due.is("of round 0", x.deliver(1), 1);
        due.is("its round stays", x.node(1, 0), 1);
        due.is("told(7)", x.told(7), 1);
    }

    private static void oldByEnd() {
        due.sentence("OLD (1) if the NODE has ENDED");
        SplitNodes x = Runs.ended().object();
        due.is("resend(0, 1)", x.resend(0, 1), 2);
        due.is("of its ROUND, which it has already", x.deliver(1), 1);
        due.is("of a ROUND before", x.deliver(0), 1);
        due.is("letters that it had", x.node(1, 3), 1);
        SplitNodes y = Runs.pairInRound(0, 199).object();
        y.copy(0);
        y.deliver(0);
        due.is("in ROUND 200", y.deliver(1), 1);
    }

    private static void twice() {
        due.sentence("TWICE (2) if the NODE has it already");
        SplitNodes x = Runs.startedThree().object();
        x.copy(0);
        x.resend(0, 1);
        due.is("taken", x.deliver(0), 0);
        due.is("a copy", x.deliver(5), 2);
        due.is("one sent once more", x.deliver(5), 2);
        due.is("letters that it has", x.node(1, 3), 1);
        due.is("still in its round", x.node(1, 0), 0);
        due.is("nothing is written", x.told(5), 6);
        due.is("told(8)", x.told(8), 2);
    }

    private static void twiceAhead() {
        due.sentence("TWICE (2), of the ROUND that is to come");
        SplitNodes x = Runs.startedPair(0).object();
        x.deliver(0);
        x.copy(1);
        due.is("of round 1, taken", x.deliver(1), 0);
        due.is("of round 1, twice", x.deliver(1), 2);
        due.is("it waits", x.node(0, 0), 0);
    }

    private static void notTwice() {
        due.sentence("else it is taken (0)");
        SplitNodes x = Runs.startedThree().object();
        due.is("of node 0", x.deliver(0), 0);
        due.is("of node 2, the same ROUND", x.deliver(4), 0);
        SplitNodes y = Runs.startedThree().object();
        y.deliver(0);
        y.crash(2);
        y.back();
        due.is("behind back(), what it had before", y.deliver(5), 0);
        SplitNodes z = Runs.startedThree().object();
        z.deliver(0);
        z.move(0, 0);
        due.is("behind move(), what it had before", z.deliver(5), 0);
        due.is("told(6)", z.told(6), 2);
    }

    private static void allOthers() {
        due.sentence("When a NODE has the LETTERS of its ROUND of all others");
        for (int n = 2; n <= 5; n++) {
            SplitNodes x = new SplitNodes();
            x.nodes(n);
            x.vertex(0, 1);
            x.start();
            for (int had = 0; had < n - 1; had++) {
                due.is("letters that it has", x.node(n - 1, 3), had);
                due.is("its round", x.node(n - 1, 0), 0);
                Runs.deliverTo(x, n - 1);
            }
            due.is("it comes into the next ROUND", x.node(n - 1, 0), 1);
            due.is("it writes to each other", x.told(5), n * (n - 1) + n - 1);
        }
    }
}
