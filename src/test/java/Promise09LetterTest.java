/** Promise 9: letter. */
final class Promise09LetterTest {
    private static final Due due = new Due("Promise 9: letter");

    public static void main(String[] args) {
        whatItTells();
        roundAndEpoch();
        activeOnesTold();
        noSuchLetter();
        noSuchWhat();
        sixtyLetters();
        due.end();
    }

    private static void whatItTells() {
        due.sentence("from (what = 0), to (1), ROUND (2), EPOCH (3), ENTRIES (4), ACTIVE ones told (5)");
        SplitNodes x = Runs.startedThree().object();
        int[][] want = {{0, 1, 0, 0, 3, 2}, {0, 2, 0, 0, 1, 2}, {1, 0, 0, 0, 0, 1}, {1, 2, 0, 0, 0, 1},
            {2, 0, 0, 0, 0, 1}, {2, 1, 0, 0, 0, 1}};
        for (int i = 0; i < 6; i++) {
            for (int what = 0; what < 6; what++) {
                due.is("letter(" + i + ", " + what + ")", x.letter(i, what), want[i][what]);
            }
        }
    }

    private static void roundAndEpoch() {
        due.sentence("ROUND (2), EPOCH (3)");
        SplitNodes x = Runs.pairInRound(2, 3).object();
        due.is("round", x.letter(0, 2), 3);
        due.is("epoch", x.letter(0, 3), 0);
        x.move(0, 0);
        due.is("epoch behind move()", x.letter(2, 3), 1);
        due.is("round behind move()", x.letter(2, 2), 3);
        due.is("epoch of a letter before", x.letter(0, 3), 0);
        x.crash(0);
        x.back();
        due.is("epoch behind back()", x.letter(4, 3), 2);
    }

    /** Vertex 1 alone is still active in round 1, and it has no arc to another node. */
    private static void activeOnesTold() {
        due.sentence("how many of its VERTICES are ACTIVE, whether they send there or not");
        SplitNodes x = new SplitNodes();
        x.vertex(0, 1);
        x.vertex(0, 9);
        x.vertex(0, 9);
        x.vertex(1, 0);
        x.arc(0, 1, 2);
        x.start();
        due.is("all three in round 0", x.letter(0, 5), 3);
        due.is("one at node 1", x.letter(1, 5), 1);
        due.is("no entries", x.letter(0, 4), 0);
        Runs.deliverFirst(x, 2);
        due.is("from", x.letter(1, 0), 0);
        due.is("one in round 1", x.letter(1, 5), 1);
        due.is("none at node 1", x.letter(0, 5), 0);
    }

    private static void noSuchLetter() {
        due.sentence("BAD: no such LETTER");
        new Script().refuses(due, "letter(0, 0) before start()", x -> x.letter(0, 0), Runs.BAD);
        Runs.ended().refuses(due, "letter(0, 0) of an empty net", x -> x.letter(0, 0), Runs.BAD);
        for (int i : new int[] {6, 60, -1, Runs.MIN, Runs.MAX}) {
            for (int k = 0; k < 6; k++) {
                int what = k;
                due.is("letter(" + i + ", " + what + ")", Runs.startedThree().ask(x -> x.letter(i, what)), Runs.BAD);
            }
        }
    }

    private static void noSuchWhat() {
        due.sentence("BAD: no such what");
        for (int what : new int[] {-1, 6, Runs.MIN, Runs.MAX}) {
            Runs.startedThree().refuses(due, "letter(0, " + what + ")", x -> x.letter(0, what), Runs.BAD);
        }
    }

    private static void sixtyLetters() {
        due.sentence("THE NET is a row of LETTERS, 60 at most");
        Script full = Runs.startedThree().then(Runs::fill);
        due.is("letter(59, 1)", full.ask(x -> x.letter(59, 1)), 1);
        full.refuses(due, "letter(60, 1)", x -> x.letter(60, 1), Runs.BAD);
        Script more = full.then(x -> x.copy(0)).then(x -> x.resend(0, 1)).then(x -> x.move(0, 0));
        due.is("letter(60, 1) behind more", more.ask(x -> x.letter(60, 1)), Runs.BAD);
    }
}
