/** Promise 12: lose. */
final class Promise12LoseTest {
    private static final Due due = new Due("Promise 12: lose");

    public static void main(String[] args) {
        howManyAreLeft();
        itIsLost();
        noSuchLetter();
        due.end();
    }

    private static void howManyAreLeft() {
        due.sentence("LETTER i is LOST: how many are left");
        SplitNodes x = Runs.startedThree().object();
        due.is("one amid", x.lose(2), 5);
        due.is("what was behind comes up", x.letter(2, 1), 2);
        due.is("what was before stays", x.letter(1, 1), 2);
        due.is("the last", x.lose(4), 4);
        due.is("the last is now another", x.letter(3, 0), 2);
        due.is("the first", x.lose(0), 3);
        due.is("the first is now another", x.letter(0, 1), 2);
        due.is("lose(0)", x.lose(0), 2);
        due.is("lose(0)", x.lose(0), 1);
        due.is("the only one", x.lose(0), 0);
        due.is("told(4)", x.told(4), 0);
        SplitNodes y = Runs.startedThree().then(Runs::fill).object();
        due.is("of a full net", y.lose(59), 59);
    }

    private static void itIsLost() {
        due.sentence("it is WRITTEN, but never taken, OLD, TWICE, GONE");
        SplitNodes x = Runs.startedPair(0).object();
        x.lose(0);
        due.is("written", x.told(5), 2);
        for (int what = 6; what <= 9; what++) {
            due.is("told(" + what + ")", x.told(what), 0);
        }
        due.is("the node waits", x.node(1, 3), 0);
        due.is("it is kept", x.resend(0, 1), 1);
        due.is("it can come again", x.deliver(1), 0);
        due.is("the node goes on", x.node(1, 0), 1);
    }

    private static void noSuchLetter() {
        due.sentence("BAD");
        Runs.three().refuses(due, "lose(0) before start()", x -> x.lose(0), Runs.BAD);
        Runs.ended().refuses(due, "lose(0) of an empty net", x -> x.lose(0), Runs.BAD);
        for (int i : new int[] {6, 60, -1, Runs.MIN, Runs.MAX}) {
            Runs.startedThree().refuses(due, "lose(" + i + ")", x -> x.lose(i), Runs.BAD);
        }
        Script full = Runs.startedThree().then(Runs::fill);
        full.refuses(due, "lose(60) of a full net", x -> x.lose(60), Runs.BAD);
    }
}
