/** Promise 6: joined. */
final class Promise06JoinedTest {
    private static final Due due = new Due("Promise 6: joined");

    public static void main(String[] args) {
        whetherItWasOn();
        fromNowOn();
        inThePlaceOfTheFirst(0, 3, 19);
        inThePlaceOfTheFirst(1, 7, 9);
        inThePlaceOfTheFirst(2, 8 * 7 + 8 * 3 + 10 * -7 + 10, 90);
        sumsGoRound();
        noEntries();
        sameValues();
        onWithLatest();
        offWithLatest();
        due.end();
    }

    private static void whetherItWasOn() {
        due.sentence("1 if it was on, else 0");
        for (Script script : new Script[] {new Script(), Runs.startedPair(0), Runs.ended()}) {
            SplitNodes x = script.object();
            due.is("joined(false)", x.joined(false), 0);
            due.is("joined(true)", x.joined(true), 0);
            due.is("joined(true) again", x.joined(true), 1);
            due.is("joined(false) then", x.joined(false), 1);
            due.is("joined(false) again", x.joined(false), 0);
        }
    }

    private static void fromNowOn() {
        due.sentence("for what is WRITTEN from now on");
        SplitNodes x = Runs.pair(2, 0).then(y -> y.arc(0, 1, 5)).then(SplitNodes::start).object();
        due.is("off: two entries", x.letter(0, 4), 2);
        x.joined(true);
        due.is("what is written stays", x.letter(0, 4), 2);
        x.resend(0, 1);
        due.is("what is sent once more stays", x.letter(2, 4), 2);
        x.copy(0);
        due.is("what is copied stays", x.letter(3, 4), 2);
        x.deliver(1);
        due.is("written by deliver()", x.letter(3, 4), 1);
        x.joined(false);
        x.deliver(0);
        x.move(0, 0);
        due.is("written by move()", x.letter(x.told(4) - 2, 4), 2);
        x.joined(true);
        x.crash(0);
        x.back();
        due.is("written by back()", x.letter(x.told(4) - 2, 4), 1);
    }

    /** Vertex 2 (value 8) has two arcs to vertex 1, vertex 3 (value 10) one to 0 and two to 1. */
    private static void inThePlaceOfTheFirst(int kind, long toVertex1, long toVertex0) {
        due.sentence("ENTRIES of one VERTEX are one, in the place of the first");
        SplitNodes x = new SplitNodes();
        x.vertex(1, 0);
        x.vertex(1, 0);
        x.vertex(0, 8);
        x.vertex(0, 10);
        x.arc(3, 0, 9);
        x.arc(2, 1, 7);
        x.arc(3, 1, -7);
        x.arc(2, 1, 3);
        x.arc(3, 1, 1);
        x.kind(kind);
        x.joined(true);
        x.start();
        due.is("kind " + kind + " entries", x.letter(0, 4), 2);
        due.is("kind " + kind + " first vertex", x.entry(0, 0, 0), 1);
        due.is("kind " + kind + " first message", x.entry(0, 0, 1), toVertex1);
        due.is("kind " + kind + " second vertex", x.entry(0, 1, 0), 0);
        due.is("kind " + kind + " second message", x.entry(0, 1, 1), toVertex0);
        due.is("kind " + kind + " no third one", x.entry(0, 2, 0), Runs.NONE);
    }

    private static void sumsGoRound() {
        due.sentence("the sum (2) of their MESSAGES; all ints, going round");
        SplitNodes x = new SplitNodes();
        x.vertex(0, Runs.MAX);
        x.vertex(1, 0);
        x.arc(0, 1, 1);
        x.arc(0, 1, 1);
        x.arc(0, 1, 1);
        x.kind(2);
        x.joined(true);
        x.start();
        due.is("message", x.entry(0, 0, 1), Runs.MAX - 2);
        x.deliver(0);
        due.is("value", x.of(1, 0), Runs.MAX - 2);
        due.is("total", x.of(1, 1), Runs.MAX - 2);
    }

    private static void noEntries() {
        due.sentence("a LETTER without ENTRIES has none when JOINED, too");
        SplitNodes x = new SplitNodes();
        x.vertex(0, 1);
        x.joined(true);
        x.start();
        due.is("entries", x.letter(0, 4), 0);
        due.is("active ones told", x.letter(0, 5), 1);
        due.is("entry(0, 0, 0)", x.entry(0, 0, 0), Runs.NONE);
    }

    private static void sameValues() {
        due.sentence("each round's values are those of one node alone");
        for (int kind = 0; kind < 3; kind++) {
            for (int on = 0; on < 2; on++) {
                SplitNodes x = new SplitNodes();
                x.vertex(0, 5);
                x.vertex(1, -20);
                x.vertex(1, 30);
                for (int a = 0; a < 12; a++) {
                    x.arc(a % 3, a / 2 % 3, 3 * a - 15);
                }
                x.kind(kind);
                x.joined(on == 1);
                x.start();
                Runs.deliverFirst(x, 4);
                for (int v = 0; v < 3; v++) {
                    due.is("kind " + kind + " of(" + v + ", 0)", x.of(v, 0), x.alone(v, 2, 0));
                    due.is("kind " + kind + " of(" + v + ", 1)", x.of(v, 1), x.alone(v, 2, 1));
                }
            }
        }
    }

    private static void onWithLatest() {
        due.sentence("STATE: on with LATEST");
        new Script().then(x -> x.kind(3)).refuses(due, "joined(true)", x -> x.joined(true), Runs.STATE);
        Script twoArcs = Runs.pair(3, 0).then(x -> x.arc(0, 1, 5));
        twoArcs.refuses(due, "joined(true) before start()", x -> x.joined(true), Runs.STATE);
        Script started = twoArcs.then(SplitNodes::start);
        started.refuses(due, "joined(true) when started", x -> x.joined(true), Runs.STATE);
        due.is("entries stay apart", started.ask(x -> x.letter(0, 4)), 2);
    }

    private static void offWithLatest() {
        due.sentence("off is no STATE with LATEST");
        due.is("joined(false)", Runs.pair(3, 0).ask(x -> x.joined(false)), 0);
        due.is("joined(false) when started",
            Runs.pair(3, 0).then(SplitNodes::start).ask(x -> x.joined(false)), 0);
        due.is("on with SUMS behind LATEST",
            Runs.pair(3, 0).then(x -> x.kind(2)).then(x -> x.joined(true)).ask(x -> x.joined(true)), 1);
    }
}
