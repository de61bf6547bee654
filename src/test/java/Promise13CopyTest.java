/** Promise 13: copy. */
final class Promise13CopyTest {
    private static final Due due = new Due("Promise 13: copy");

    public static void main(String[] args) {
        onceMore();
        notWritten();
        noSuchLetter();
        full();
        theFirstThatFits();
        due.end();
    }

    private static void onceMore() {
        due.sentence("LETTER i comes once more behind THE NET: how many there are");
        for (int i = 0; i < 6; i++) {
            SplitNodes x = Runs.startedThree().object();
            due.is("copy(" + i + ")", x.copy(i), 7);
            due.isTrue("the same letter", Runs.letter(x, i).equals(Runs.letter(x, 6)));
            due.is("copy(6)", x.copy(6), 8);
            due.isTrue("the same letter again", Runs.letter(x, i).equals(Runs.letter(x, 7)));
            due.is("told(4)", x.told(4), 8);
        }
        SplitNodes x = Runs.startedPair(0).then(y -> y.move(0, 0)).object();
        x.copy(0);
        due.is("its EPOCH is the letter's", x.letter(4, 3), 0);
    }

    private static void notWritten() {
        due.sentence("WRITTEN ever (not by copy())");
        SplitNodes x = Runs.startedThree().then(Runs::fill).object();
        due.is("told(5)", x.told(5), 6);
    }

    private static void noSuchLetter() {
        due.sentence("BAD");
        Runs.three().refuses(due, "copy(0) before start()", x -> x.copy(0), Runs.BAD);
        Runs.ended().refuses(due, "copy(0) of an empty net", x -> x.copy(0), Runs.BAD);
        for (int i : new int[] {6, 60, -1, Runs.MIN, Runs.MAX}) {
            Runs.startedThree().refuses(due, "copy(" + i + ")", x -> x.copy(i), Runs.BAD);
        }
    }

    private static void full() {
        due.sentence("60 at most: FULL");
        SplitNodes x = Runs.startedThree().object();
        for (int size = 7; size <= 60; size++) {
            due.is("copy(1)", x.copy(1), size);
        }
        due.is("the last one is there", x.letter(59, 1), 2);
        Script script = Runs.startedThree().then(Runs::fill);
        for (int i : new int[] {0, 59}) {
            script.refuses(due, "copy(" + i + ")", y -> y.copy(i), Runs.FULL);
        }
        due.is("room again", script.then(y -> y.lose(3)).ask(y -> y.copy(0)), 60);
    }

    private static void theFirstThatFits() {
        due.sentence("the first that fits");
        Script full = Runs.startedThree().then(Runs::fill);
        for (int i : new int[] {60, -1}) {
            full.refuses(due, "BAD before FULL: copy(" + i + ")", x -> x.copy(i), Runs.BAD);
        }
    }
}
