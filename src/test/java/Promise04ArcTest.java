/** Promise 4: arc. */
final class Promise04ArcTest {
    private static final Due due = new Due("Promise 4: arc");

    public static void main(String[] args) {
        itsNumber();
        toItself();
        weights();
        noSuchVertex();
        noSuchWeight();
        started();
        full();
        theFirstThatFits();
        due.end();
    }

    private static Script twoVertices() {
        return new Script().then(x -> x.vertex(0, 1)).then(x -> x.vertex(1, 1));
    }

    private static Script forty() {
        return twoVertices().then(x -> {
            for (int a = 0; a < 40; a++) {
                x.arc(0, 1, a);
            }
        });
    }

    private static void itsNumber() {
        due.sentence("ARCS 0, 1, .. (40 at most): its number");
        SplitNodes x = twoVertices().object();
        for (int a = 0; a < 40; a++) {
            due.is("arc " + a, x.arc(0, 1, a), a);
            due.is("told(1)", x.told(1), a + 1);
        }
        x.start();
        due.is("an entry for each", x.letter(0, 4), 40);
        due.is("the last one's message", x.entry(0, 39, 1), 40);
    }

    private static void toItself() {
        due.sentence("from a VERTEX to a VERTEX (itself, too)");
        SplitNodes x = twoVertices().object();
        due.is("arc(1, 1, 3)", x.arc(1, 1, 3), 0);
        x.kind(3);
        x.start();
        due.is("not in a letter", x.letter(1, 4), 0);
        Runs.deliverFirst(x, 4);
        due.is("value behind two rounds", x.of(1, 0), 7);
        due.is("alone", x.alone(1, 2, 0), 7);
    }

    private static void weights() {
        due.sentence("a weight w (-1000 .. 1000)");
        for (int w : new int[] {-1000, 1000, 0}) {
            SplitNodes x = twoVertices().object();
            due.is("arc(0, 1, " + w + ")", x.arc(0, 1, w), 0);
            x.start();
            due.is("its message", x.entry(0, 0, 1), 1 + w);
        }
    }

    private static void noSuchVertex() {
        due.sentence("BAD: no such VERTEX");
        new Script().refuses(due, "arc(0, 0, 0) without vertices", x -> x.arc(0, 0, 0), Runs.BAD);
        for (int v : new int[] {2, 16, -1, Runs.MIN, Runs.MAX}) {
            twoVertices().refuses(due, "arc(" + v + ", 0, 0)", x -> x.arc(v, 0, 0), Runs.BAD);
            twoVertices().refuses(due, "arc(0, " + v + ", 0)", x -> x.arc(0, v, 0), Runs.BAD);
        }
    }

    private static void noSuchWeight() {
        due.sentence("BAD: no such weight");
        for (int w : new int[] {-1001, 1001, Runs.MIN, Runs.MAX}) {
            twoVertices().refuses(due, "arc(0, 1, " + w + ")", x -> x.arc(0, 1, w), Runs.BAD);
        }
    }

    private static void started() {
        due.sentence("STATE: started");
        Script[] states = {twoVertices().then(SplitNodes::start), Runs.startedPair(0), Runs.ended(),
            Runs.startedPair(0).then(x -> x.crash(0))};
        for (Script state : states) {
            state.refuses(due, "arc(0, 1, 1)", x -> x.arc(0, 1, 1), Runs.STATE);
        }
    }

    private static void full() {
        due.sentence("40 at most: FULL");
        forty().refuses(due, "a forty-first", x -> x.arc(1, 0, 5), Runs.FULL);
    }

    private static void theFirstThatFits() {
        due.sentence("the first that fits");
        due.is("BAD before FULL", forty().ask(x -> x.arc(0, 2, 0)), Runs.BAD);
        due.is("BAD before FULL", forty().ask(x -> x.arc(0, 1, 1001)), Runs.BAD);
        Script started = forty().then(SplitNodes::start);
        due.is("BAD before STATE", started.ask(x -> x.arc(2, 0, 0)), Runs.BAD);
        due.is("STATE before FULL", started.ask(x -> x.arc(0, 1, 0)), Runs.STATE);
    }
}
