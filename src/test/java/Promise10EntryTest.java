/** Promise 10: entry. */
final class Promise10EntryTest {
    private static final Due due = new Due("Promise 10: entry");

    public static void main(String[] args) {
        byNumbers();
        messages();
        goingRound();
        whoIsNotActive();
        noneSuch();
        noEntries();
        forty();
        due.end();
    }

    private static void byNumbers() {
        due.sentence("of its ACTIVE VERTICES by numbers, of each its ARCS by numbers");
        SplitNodes x = Runs.startedThree().object();
        long[][] want = {{2, 11}, {2, -5}, {2, 11}};
        for (int j = 0; j < 3; j++) {
            due.is("entry(0, " + j + ", 0)", x.entry(0, j, 0), want[j][0]);
            due.is("entry(0, " + j + ", 1)", x.entry(0, j, 1), want[j][1]);
        }
        due.is("each that leads to a VERTEX there", x.entry(1, 0, 0), 3);
        due.is("its message", x.entry(1, 0, 1), 12);
    }

    private static void message(int kind, int value, int w, long want) {
        Script script = Runs.oneArc(kind, value, 0, w);
        due.is("kind " + kind + ", x " + value + ", w " + w, script.ask(x -> x.entry(0, 0, 1)), want);
    }

    private static void messages() {
        due.sentence("0 LEAST: x + w. 1 WIDEST: the lesser of x and w. 2 SUMS: x w. 3 LATEST: x + w");
        message(0, 7, -9, -2);
        message(1, 7, 8, 7);
        message(1, 8, 7, 7);
        message(1, -7, 1000, -7);
        message(1, Runs.MIN, -1000, Runs.MIN);
        message(1, Runs.MAX, -1, -1);
        message(2, 7, -9, -63);
        message(2, 7, 0, 0);
        message(3, 7, -9, -2);
    }

    private static void goingRound() {
        due.sentence("All ints, going round");
        message(0, Runs.MAX, 1, Runs.MIN);
        message(0, Runs.MAX, 1000, Runs.MIN + 999);
        message(0, Runs.MIN, -1, Runs.MAX);
        message(2, Runs.MAX, 1000, -1000);
        message(2, Runs.MIN, -1, Runs.MIN);
        message(2, Runs.MIN, 2, 0);
        message(2, 1 << 30, 3, -(1 << 30));
        message(3, Runs.MAX, 1, Runs.MIN);
        message(3, Runs.MIN, -1000, Runs.MAX - 999);
    }

    private static void whoIsNotActive() {
        due.sentence("each VERTEX that is ACTIVE sends");
        SplitNodes x = Runs.oneArc(0, 5, 5, 0).object();
        due.is("an entry in round 0", x.letter(0, 4), 1);
        Runs.deliverFirst(x, 2);
        due.is("round 1", x.letter(0, 2) + x.letter(1, 2), 2);
        due.is("no entries in round 1", x.letter(0, 4) + x.letter(1, 4), 0);
    }

    private static void noneSuch() {
        due.sentence("NONE: there is none such");
        Script script = Runs.startedThree();
        int[][] rows = {{0, 3, 0}, {0, -1, 0}, {0, 0, 2}, {0, 0, -1}, {1, 1, 0}, {6, 0, 0}, {-1, 0, 0},
            {60, 0, 0}, {0, Runs.MAX, 0}, {0, Runs.MIN, 1}, {Runs.MAX, 0, 0}, {Runs.MIN, 0, 0},
            {0, 0, Runs.MAX}, {0, 0, Runs.MIN}};
        for (int[] row : rows) {
            String call = "entry(" + row[0] + ", " + row[1] + ", " + row[2] + ")";
            script.refuses(due, call, x -> x.entry(row[0], row[1], row[2]), Runs.NONE);
        }
    }

    private static void noEntries() {
        due.sentence("NONE: of a LETTER without ENTRIES, of an empty net, before start()");
        due.is("without entries", Runs.startedThree().ask(x -> x.entry(2, 0, 0)), Runs.NONE);
        due.is("empty net", Runs.ended().ask(x -> x.entry(0, 0, 0)), Runs.NONE);
        due.is("before start()", Runs.three().ask(x -> x.entry(0, 0, 0)), Runs.NONE);
    }

    private static void forty() {
        due.sentence("40 ARCS at most: 40 ENTRIES at most");
        Script script = new Script().then(x -> x.vertex(0, 1)).then(x -> x.vertex(1, 1));
        for (int a = 0; a < 40; a++) {
            int w = a;
            script = script.then(x -> x.arc(0, 1, w));
        }
        script = script.then(SplitNodes::start);
        due.is("letter(0, 4)", script.ask(x -> x.letter(0, 4)), 40);
        due.is("entry(0, 39, 1)", script.ask(x -> x.entry(0, 39, 1)), 40);
        due.is("entry(0, 40, 1)", script.ask(x -> x.entry(0, 40, 1)), Runs.NONE);
    }
}
