/** Promise 16: back. */
final class Promise16BackTest {
    private static final Due due = new Due("Promise 16: back");

    public static void main(String[] args) {
        epochIsOneMore();
        asItsMarkTells();
        noLettersOfOthers();
        notDownNotEnded();
        writesItsLetters();
        noRoom();
        toRound0();
        theGreatestThatEachHas();
        marksUpToMAlone();
        toTheSameMarkAgain();
        oldLetters();
        worksOn();
        notStarted();
        noneIsDown();
        due.end();
    }

    /** A pair by SUMS with K 2, both in round 5, of which one has failed. */
    private static Script down(int n) {
        return Runs.pairInRound(2, 5).then(x -> x.crash(n));
    }

    private static void epochIsOneMore() {
        due.sentence("All go BACK: m. EPOCH is one more");
        SplitNodes x = down(0).object();
        due.is("back()", x.back(), 4);
        due.is("epoch", x.told(10), 1);
        x.crash(0);
        x.crash(1);
        due.is("back() again", x.back(), 4);
        due.is("epoch again", x.told(10), 2);
    }

    private static void asItsMarkTells() {
        due.sentence("each NODE is in ROUND m as its MARK tells");
        for (int n = 0; n < 2; n++) {
            SplitNodes x = down(n).then(SplitNodes::back).object();
            for (int node = 0; node < 2; node++) {
                due.is("round", x.node(node, 0), 4);
                due.is("mark", x.node(node, 5), 4);
                due.is("value", x.of(node, 0), 1);
                due.is("total", x.of(node, 1), 4);
                due.is("active", x.of(node, 2), 1);
            }
        }
        notActiveAsMarked();
    }

    /** LEAST: in round 1 vertex 0 is not active and vertex 1 is 7 and active; in round 2 none is. */
    private static void notActiveAsMarked() {
        SplitNodes x = new SplitNodes();
        x.vertex(0, 4);
        x.vertex(1, 9);
        x.arc(0, 1, 3);
        x.every(1);
        x.start();
        Runs.deliverFirst(x, 2);
        x.crash(1);
        due.is("m", x.back(), 1);
        due.is("not active as marked", x.of(0, 2), 0);
        due.is("active as marked", x.of(1, 2), 1);
        due.is("value as marked", x.of(1, 0), 7);
    }

    private static void noLettersOfOthers() {
        due.sentence("has no LETTERS of others");
        SplitNodes x = Runs.startedThree().object();
        x.deliver(0);
        x.deliver(1);
        x.crash(2);
        x.back();
        for (int n = 0; n < 3; n++) {
            due.is("node(" + n + ", 3)", x.node(n, 3), 0);
        }
        SplitNodes y = Runs.pairInRound(1, 3).object();
        Runs.deliverTo(y, 1);
        due.is("one ahead", Runs.deliverLast(y), 0);
        y.crash(1);
        due.is("m", y.back(), 3);
        due.is("round 3's letter", Runs.deliverTo(y, 0), 1);
        Runs.empty(y);
        Runs.resendAll(y);
        due.is("its letter of the new epoch", Runs.deliverTo(y, 0), 0);
        due.is("one round on: what came ahead is no more", y.node(0, 0), 4);
    }

    private static void notDownNotEnded() {
        due.sentence("is not DOWN, has not ENDED");
        SplitNodes x = Runs.ended().then(y -> y.crash(1)).then(SplitNodes::back).object();
        for (int n = 0; n < 2; n++) {
            due.is("down", x.node(n, 2), 0);
            due.is("ended", x.node(n, 1), 0);
            due.is("round", x.node(n, 0), 0);
        }
        Runs.deliverFirst(x, 4);
        due.is("they end again", x.node(0, 1) + x.node(1, 1), 2);
        SplitNodes y = Runs.pairInRound(50, 200).then(z -> z.crash(1)).then(SplitNodes::back).object();
        due.is("out of ROUND 200: ended", y.node(0, 1), 0);
        due.is("out of ROUND 200: round", y.node(0, 0), 150);
    }

    private static void writesItsLetters() {
        due.sentence("and WRITES its LETTERS of m");
        SplitNodes x = Runs.startedThree().then(y -> y.crash(1)).object();
        due.is("back()", x.back(), 0);
        due.is("letters", x.told(4), 12);
        due.is("written", x.told(5), 12);
        int[] from = {0, 0, 1, 1, 2, 2};
        int[] to = {1, 2, 0, 2, 0, 1};
        for (int i = 0; i < 6; i++) {
            due.is("from", x.letter(6 + i, 0), from[i]);
            due.is("to", x.letter(6 + i, 1), to[i]);
            due.is("round", x.letter(6 + i, 2), 0);
            due.is("epoch", x.letter(6 + i, 3), 1);
            due.is("entries", x.letter(6 + i, 4), x.letter(i, 4));
            due.is("active ones", x.letter(6 + i, 5), x.letter(i, 5));
        }
        SplitNodes y = down(1).then(SplitNodes::back).object();
        due.isTrue("of m", Runs.letter(y, 2).equals("0 1 4 1 1 1 1:1"));
        due.isTrue("of m", Runs.letter(y, 3).equals("1 0 4 1 1 1 0:1"));
    }

    private static void noRoom() {
        due.sentence("where there is no room it is LOST");
        SplitNodes x = down(0).then(Runs::fill).then(y -> y.lose(0)).object();
        int written = x.told(5);
        due.is("back()", x.back(), 4);
        due.is("letters", x.told(4), 60);
        due.is("written", x.told(5), written + 2);
        due.is("node 0's has room", x.letter(59, 0), 0);
        x.lose(0);
        due.is("node 1's is kept", x.resend(1, 0), 1);
        due.is("of the epoch", x.letter(59, 3), 1);
    }

    private static void toRound0() {
        due.sentence("K 0: a MARK of ROUND 0 alone");
        SplitNodes x = new SplitNodes();
        x.vertex(0, 9);
        x.vertex(1, 0);
        x.arc(1, 0, 3);
        x.start();
        Runs.deliverFirst(x, 6);
        due.is("both ended", x.node(0, 1) + x.node(1, 1), 2);
        due.is("value at the end", x.of(0, 0), 3);
        x.crash(1);
        due.is("back()", x.back(), 0);
        due.is("value at first", x.of(0, 0), 9);
        due.is("active at first", x.of(0, 2), 1);
        due.is("in round 0, too", Runs.startedPair(0).then(y -> y.crash(0)).ask(SplitNodes::back), 0);
        SplitNodes y = Runs.pairInRound(0, 190).then(z -> z.crash(0)).object();
        due.is("from round 190", y.back(), 0);
        due.is("total", y.of(0, 1), 0);
    }

    /** One node has come into round 4 and marked it, the other one is still in round 3. */
    private static Script oneAhead(int n) {
        return Runs.pairInRound(2, 3).then(x -> Runs.deliverTo(x, n));
    }

    private static void theGreatestThatEachHas() {
        due.sentence("m is the greatest ROUND of which each NODE has a MARK");
        for (int ahead = 0; ahead < 2; ahead++) {
            for (int fails = 0; fails < 2; fails++) {
                SplitNodes x = oneAhead(ahead).object();
                due.is("mark of the one ahead", x.node(ahead, 5), 4);
                due.is("mark of the other", x.node(1 - ahead, 5), 2);
                x.crash(fails);
                due.is("back()", x.back(), 2);
                due.is("total", x.of(ahead, 1), 2);
                due.is("round", x.node(ahead, 0), 2);
            }
        }
        SplitNodes y = new SplitNodes();
        y.nodes(5);
        y.vertex(0, 1);
        y.arc(0, 0, 1);
        y.kind(2);
        y.every(1);
        y.start();
        for (int i = 0; i < 4; i++) {
            Runs.deliverTo(y, 3);
        }
        due.is("five nodes, one ahead", y.node(3, 5), 1);
        y.crash(4);
        due.is("five nodes, back()", y.back(), 0);
        due.is("five nodes, its mark", y.node(3, 5), 0);
    }

    private static void marksUpToMAlone() {
        due.sentence("keeps MARKS up to m alone");
        for (int ahead = 0; ahead < 2; ahead++) {
            int other = 1 - ahead;
            SplitNodes x = oneAhead(ahead).then(y -> y.crash(0)).then(SplitNodes::back).object();
            due.is("mark of the one that was ahead", x.node(ahead, 5), 2);
            Runs.empty(x);
            Runs.resendAll(x);
            Runs.deliverFirst(x, 2);
            Runs.deliverTo(x, other);
            due.is("now the other one is ahead", x.node(other, 5), 4);
            due.is("and the first has no mark of 4", x.node(ahead, 5), 2);
            x.crash(0);
            due.is("back()", x.back(), 2);
            due.is("total", x.of(ahead, 1), 2);
        }
    }

    private static void toTheSameMarkAgain() {
        due.sentence("a MARK is kept when all went BACK to it");
        SplitNodes x = down(0).object();
        for (int turn = 1; turn < 6; turn++) {
            due.is("back()", x.back(), 4);
            due.is("epoch", x.told(10), turn);
            due.is("total", x.of(0, 1) * 10 + x.of(1, 1), 44);
            Runs.empty(x);
            Runs.resendAll(x);
            Runs.deliverFirst(x, 2);
            due.is("a round on", x.of(0, 1), 5);
            x.crash(turn % 2);
        }
    }

    private static void oldLetters() {
        due.sentence("LETTERS under way stay in THE NET and are OLD");
        SplitNodes x = down(0).then(SplitNodes::back).object();
        due.is("letters", x.told(4), 4);
        due.is("deliver(0)", x.deliver(0), 1);
        due.is("deliver(0)", x.deliver(0), 1);
        due.is("deliver(0)", x.deliver(0), 0);
    }

    private static void worksOn() {
        due.sentence("each round's values are those of one node alone");
        SplitNodes x = down(1).then(SplitNodes::back).object();
        Runs.deliverFirst(x, 2);
        for (int round = 5; round < 12; round++) {
            Runs.deliverFirst(x, 2);
            due.is("round", x.node(0, 0), round);
            due.is("total", x.of(0, 1), x.alone(0, round, 1));
            due.is("mark", x.node(1, 5), round / 2 * 2);
        }
    }

    private static void notStarted() {
        due.sentence("STATE: not started");
        new Script().refuses(due, "back()", SplitNodes::back, Runs.STATE);
        Runs.three().refuses(due, "back()", SplitNodes::back, Runs.STATE);
        Script anew = Runs.startedThree().then(x -> x.crash(1)).then(x -> x.nodes(3));
        anew.refuses(due, "back() behind nodes()", SplitNodes::back, Runs.STATE);
    }

    private static void noneIsDown() {
        due.sentence("STATE: none is DOWN");
        Script five = new Script().then(x -> x.nodes(5)).then(SplitNodes::start);
        Script[] states = {Runs.startedThree(), five, Runs.pairInRound(2, 5), Runs.ended(), Runs.pairInRound(1, 200),
            down(0).then(SplitNodes::back)};
        for (Script state : states) {
            state.refuses(due, "back()", SplitNodes::back, Runs.STATE);
        }
    }
}
