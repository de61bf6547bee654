/** Promise 7: every. */
final class Promise07EveryTest {
    private static final Due due = new Due("Promise 7: every");

    public static void main(String[] args) {
        whatItWas();
        noSuchK();
        started();
        theFirstThatFits();
        roundsThatKDivides();
        k0();
        butNot200();
        theMarkBeforeThat();
        due.end();
    }

    private static void whatItWas() {
        due.sentence("K: what it was (0 .. 50)");
        SplitNodes x = new SplitNodes();
        int was = 0;
        for (int k : new int[] {50, 0, 1, 49, 49, 0}) {
            due.is("every(" + k + ")", x.every(k), was);
            due.is("told(11)", x.told(11), k);
            was = k;
        }
    }

    private static void noSuchK() {
        due.sentence("BAD");
        for (int k : new int[] {-1, 51, Runs.MIN, Runs.MAX}) {
            Runs.pair(2, 3).refuses(due, "every(" + k + ")", x -> x.every(k), Runs.BAD);
        }
    }

    private static void started() {
        due.sentence("STATE: started");
        for (int k : new int[] {0, 3, 50}) {
            Runs.startedPair(3).refuses(due, "every(" + k + ")", x -> x.every(k), Runs.STATE);
            Runs.ended().refuses(due, "every(" + k + ") when ended", x -> x.every(k), Runs.STATE);
        }
    }

    private static void theFirstThatFits() {
        due.sentence("the first that fits");
        due.is("BAD before STATE", Runs.startedPair(3).ask(x -> x.every(51)), Runs.BAD);
        due.is("BAD before STATE", Runs.startedPair(3).ask(x -> x.every(-1)), Runs.BAD);
    }

    private static void roundsThatKDivides() {
        due.sentence("A NODE that comes into a ROUND that K divides keeps a MARK");
        for (int k : new int[] {1, 2, 3, 7}) {
            SplitNodes x = Runs.startedPair(k).object();
            for (int round = 0; round < 16; round++) {
                due.is("K " + k + ", round", x.node(1, 0), round);
                due.is("K " + k + ", mark in round " + round, x.node(1, 5), round / k * k);
                Runs.deliverFirst(x, 2);
            }
        }
        SplitNodes y = Runs.pairInRound(50, 49).object();
        due.is("K 50, mark in round 49", y.node(0, 5), 0);
        Runs.deliverFirst(y, 2);
        due.is("K 50, mark in round 50", y.node(0, 5), 50);
    }

    private static void k0() {
        due.sentence("K 0: into ROUND 0 alone");
        SplitNodes x = Runs.startedPair(0).object();
        due.is("mark in round 0", x.node(0, 5), 0);
        for (int round = 1; round <= 60; round++) {
            Runs.deliverFirst(x, 2);
            due.is("mark in round " + round, x.node(0, 5), 0);
        }
    }

    private static void butNot200() {
        due.sentence("a ROUND that K divides, but 200");
        int[][] rows = {{1, 199}, {2, 198}, {40, 160}, {50, 150}};
        for (int[] row : rows) {
            SplitNodes x = Runs.pairInRound(row[0], 200).object();
            due.is("K " + row[0] + ", round", x.node(0, 0), 200);
            due.is("K " + row[0] + ", mark", x.node(0, 5), row[1]);
            x.crash(0);
            due.is("K " + row[0] + ", back()", x.back(), row[1]);
            due.is("K " + row[0] + ", total", x.of(1, 1), row[1]);
        }
    }

    private static void theMarkBeforeThat() {
        due.sentence("and the MARK before that");
        for (int k = 1; k <= 3; k++) {
            SplitNodes x = Runs.pairInRound(k, 4 * k - 1).object();
            Runs.deliverTo(x, 1);
            due.is("K " + k + ", mark of the one ahead", x.node(1, 5), 4 * k);
            due.is("K " + k + ", mark of the other", x.node(0, 5), 3 * k);
            x.crash(0);
            due.is("K " + k + ", back()", x.back(), 3 * k);
            due.is("K " + k + ", total of the one ahead", x.of(1, 1), 3 * k);
        }
    }
}
