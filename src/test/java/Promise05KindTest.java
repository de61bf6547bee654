/** Promise 5: kind. */
final class Promise05KindTest {
    private static final Due due = new Due("Promise 5: kind");

    public static void main(String[] args) {
        whichItWas();
        joinedIsOff();
        noSuchKind();
        started();
        theFirstThatFits();
        due.end();
    }

    private static void whichItWas() {
        due.sentence("The KIND: which it was");
        SplitNodes x = new SplitNodes();
        int was = 0;
        for (int k : new int[] {3, 0, 2, 2, 1, 3, 3, 0}) {
            due.is("kind(" + k + ")", x.kind(k), was);
            due.is("told(3)", x.told(3), k);
            was = k;
        }
    }

    private static void joinedIsOff() {
        due.sentence("JOINED is off behind it");
        for (int before = 0; before < 3; before++) {
            for (int k = 0; k < 4; k++) {
                SplitNodes x = new SplitNodes();
                x.kind(before);
                x.joined(true);
                x.kind(k);
                due.is("joined(false) behind kind(" + k + ")", x.joined(false), 0);
            }
        }
    }

    private static void noSuchKind() {
        due.sentence("BAD");
        Script on = Runs.pair(1, 0).then(x -> x.joined(true));
        for (int k : new int[] {-1, 4, Runs.MIN, Runs.MAX}) {
            new Script().refuses(due, "kind(" + k + ")", x -> x.kind(k), Runs.BAD);
            on.refuses(due, "kind(" + k + ") with JOINED on", x -> x.kind(k), Runs.BAD);
        }
    }

    private static void started() {
        due.sentence("STATE: started");
        Script on = Runs.pair(1, 0).then(x -> x.arc(0, 1, 2)).then(x -> x.joined(true)).then(SplitNodes::start);
        for (int i = 0; i < 4; i++) {
            int k = i;
            on.refuses(due, "kind(" + k + ")", x -> x.kind(k), Runs.STATE);
            Runs.ended().refuses(due, "kind(" + k + ") when ended", x -> x.kind(k), Runs.STATE);
        }
    }

    private static void theFirstThatFits() {
        due.sentence("the first that fits");
        due.is("BAD before STATE", Runs.startedPair(0).ask(x -> x.kind(4)), Runs.BAD);
        due.is("BAD before STATE", Runs.startedPair(0).ask(x -> x.kind(-1)), Runs.BAD);
    }
}
