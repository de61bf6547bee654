/** Promise 14: resend. */
final class Promise14ResendTest {
    private static final Due due = new Due("Promise 14: resend");

    public static void main(String[] args) {
        theLesserRoundFirst();
        ofItsRoundAndTheOneBefore();
        forThatOneAlone();
        inThisEpoch();
        ofEnded();
        in200();
        asLongAsThereIsRoom();
        lostOnesAreKept();
        notWritten();
        noSuchNodes();
        oneAlone();
        notStarted();
        theFirstIsDown();
        theFirstThatFits();
        due.end();
    }

    private static void theLesserRoundFirst() {
        due.sentence("come behind THE NET once more, that of the lesser ROUND first: how many");
        SplitNodes x = Runs.pairInRound(0, 5).object();
        due.is("resend(1, 0)", x.resend(1, 0), 2);
        due.is("letters", x.told(4), 4);
        due.is("the lesser round", x.letter(2, 2), 4);
        due.is("its round", x.letter(3, 2), 5);
        due.is("from", x.letter(2, 0), 1);
        due.is("to", x.letter(3, 1), 0);
        due.is("its entry", x.entry(3, 0, 1), 1);
        due.is("resend(1, 0) again", x.resend(1, 0), 2);
    }

    private static void ofItsRoundAndTheOneBefore() {
        due.sentence("It keeps the LETTERS of its ROUND and of the ROUND before");
        SplitNodes x = Runs.startedPair(0).object();
        for (int round = 0; round < 6; round++) {
            Runs.empty(x);
            due.is("in round " + round, x.resend(0, 1), round == 0 ? 1 : 2);
            due.is("the first one's", x.letter(0, 2), Math.max(0, round - 1));
            x.resend(1, 0);
            Runs.deliverFirst(x, x.told(4));
        }
    }

    private static void forThatOneAlone() {
        due.sentence("The LETTERS that a NODE keeps for another one");
        SplitNodes x = Runs.startedThree().object();
        for (int from = 0; from < 3; from++) {
            for (int to = 0; to < 3; to++) {
                if (from != to) {
                    int at = x.told(4);
                    due.is("resend(" + from + ", " + to + ")", x.resend(from, to), 1);
                    due.is("one more", x.told(4), at + 1);
                    due.is("from", x.letter(at, 0), from);
                    due.is("to", x.letter(at, 1), to);
                }
            }
        }
        due.isTrue("as it was written", Runs.letter(x, 6).equals(Runs.letter(x, 0)));
    }

    private static void inThisEpoch() {
        due.sentence("(those that it WROTE in this EPOCH)");
        SplitNodes x = Runs.pairInRound(2, 4).then(y -> y.crash(0)).then(SplitNodes::back).object();
        due.is("behind back()", x.resend(1, 0), 1);
        due.is("its round", x.letter(x.told(4) - 1, 2), 4);
        due.is("its epoch", x.letter(x.told(4) - 1, 3), 1);
        due.is("of the one that was down", x.resend(0, 1), 1);
        SplitNodes y = Runs.pairInRound(0, 3).then(z -> z.move(0, 1)).object();
        due.is("behind move()", y.resend(1, 0), 1);
        due.is("its round", y.letter(4, 2), 3);
        due.is("its epoch", y.letter(4, 3), 1);
        Runs.empty(y);
        Runs.resendAll(y);
        Runs.deliverFirst(y, 2);
        due.is("a round behind move()", y.resend(1, 0), 2);
    }

    private static void ofEnded() {
        due.sentence("of a NODE that has ENDED, too");
        SplitNodes x = Runs.ended().object();
        due.is("resend(0, 1)", x.resend(0, 1), 2);
        due.is("rounds", x.letter(0, 2) * 10 + x.letter(1, 2), 1);
    }

    private static void in200() {
        due.sentence("in ROUND 200 it WRITES nothing: that of 199 alone");
        SplitNodes x = Runs.pairInRound(0, 200).object();
        due.is("resend(1, 0)", x.resend(1, 0), 1);
        due.is("its round", x.letter(0, 2), 199);
    }

    private static void asLongAsThereIsRoom() {
        due.sentence("as long as there is room");
        Script full = Runs.pairInRound(0, 5).then(Runs::fill);
        due.is("no room", full.ask(x -> x.resend(0, 1)), 0);
        full.isSame(due, "no room: nothing changes", full.then(x -> x.resend(0, 1)));
        SplitNodes x = full.then(y -> y.lose(0)).object();
        due.is("room for one", x.resend(0, 1), 1);
        due.is("that of the lesser ROUND", x.letter(59, 2), 4);
        due.is("letters", x.told(4), 60);
        SplitNodes y = full.then(z -> z.lose(0)).then(z -> z.lose(0)).object();
        due.is("room for two", y.resend(0, 1), 2);
        due.is("its own ROUND's", y.letter(59, 2), 5);
    }

    private static void lostOnesAreKept() {
        due.sentence("what is LOST for want of room is WRITTEN, so it is kept");
        SplitNodes x = Runs.startedPair(0).then(Runs::fill).then(y -> y.move(0, 0)).object();
        due.is("written", x.told(5), 4);
        Runs.empty(x);
        due.is("resend(0, 1)", x.resend(0, 1), 1);
        due.is("its epoch", x.letter(0, 3), 1);
        due.is("it can be taken", x.deliver(0), 0);
    }

    private static void notWritten() {
        due.sentence("WRITTEN ever (not by resend())");
        SplitNodes x = Runs.pairInRound(0, 2).object();
        int written = x.told(5);
        x.resend(0, 1);
        due.is("told(5)", x.told(5), written);
    }

    private static void noSuchNodes() {
        due.sentence("BAD: no such NODES");
        for (int n : new int[] {3, 5, -1, Runs.MIN, Runs.MAX}) {
            Runs.startedThree().refuses(due, "resend(" + n + ", 0)", x -> x.resend(n, 0), Runs.BAD);
            Runs.startedThree().refuses(due, "resend(0, " + n + ")", x -> x.resend(0, n), Runs.BAD);
        }
    }

    private static void oneAlone() {
        due.sentence("BAD: or one alone");
        for (int i = 0; i < 3; i++) {
            int n = i;
            Runs.startedThree().refuses(due, "resend(" + n + ", " + n + ")", x -> x.resend(n, n), Runs.BAD);
        }
    }

    private static void notStarted() {
        due.sentence("STATE: not started");
        new Script().refuses(due, "resend(0, 1)", x -> x.resend(0, 1), Runs.STATE);
        Runs.three().refuses(due, "resend(2, 0)", x -> x.resend(2, 0), Runs.STATE);
        Script anew = Runs.startedThree().then(x -> x.nodes(2));
        anew.refuses(due, "resend(0, 1) behind nodes()", x -> x.resend(0, 1), Runs.STATE);
    }

    private static void theFirstIsDown() {
        due.sentence("STATE: the first is DOWN");
        Script down = Runs.startedThree().then(x -> x.crash(1));
        down.refuses(due, "resend(1, 0)", x -> x.resend(1, 0), Runs.STATE);
        due.is("to the one that is down", down.ask(x -> x.resend(0, 1)), 1);
        due.is("between others", down.ask(x -> x.resend(0, 2)), 1);
    }

    private static void theFirstThatFits() {
        due.sentence("the first that fits");
        due.is("BAD before not started", new Script().ask(x -> x.resend(0, 2)), Runs.BAD);
        due.is("BAD before not started", new Script().ask(x -> x.resend(1, 1)), Runs.BAD);
        Script down = Runs.startedThree().then(x -> x.crash(1));
        due.is("BAD before DOWN", down.ask(x -> x.resend(1, 1)), Runs.BAD);
        due.is("BAD before DOWN", down.ask(x -> x.resend(1, 3)), Runs.BAD);
    }
}
