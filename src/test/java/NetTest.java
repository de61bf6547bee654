/** Promises 9 to 14: letter, entry, deliver, lose, copy, resend. */
final class NetTest {
    private static final Due due = new Due("NetTest");

    public static void main(String[] args) {
        letter();
        entry();
        deliver();
        deliverAhead();
        deliverLatest();
        notActive();
        end();
        lastRound();
        lose();
        copy();
        resend();
        due.end();
    }

    /** Three nodes; vertices 0, 1 at node 0, 2 at node 1, 3 at node 2. */
    private static SplitNodes three() {
        SplitNodes x = new SplitNodes();
        x.nodes(3);
        x.vertex(0, 4);
        x.vertex(0, 6);
        x.vertex(1, 90);
        x.vertex(2, 90);
        x.arc(1, 2, 5);
        x.arc(0, 3, 8);
        x.arc(0, 2, 7);
        x.arc(0, 1, 1);
        x.arc(0, 2, -9);
        return x;
    }

    private static void letter() {
        SplitNodes x = three();
        due.is("9 before start()", x.letter(0, 0), Runs.BAD);
        x.start();
        int[][] want = {{0, 1, 0, 0, 3, 2}, {0, 2, 0, 0, 1, 2}, {1, 0, 0, 0, 0, 1}, {1, 2, 0, 0, 0, 1}};
        for (int i = 0; i < want.length; i++) {
            for (int what = 0; what < 6; what++) {
                due.is("9 letter(" + i + ", " + what + ")", x.letter(i, what), want[i][what]);
            }
        }
        due.is("9 letter(-1, 0)", x.letter(-1, 0), Runs.BAD);
        due.is("9 letter(6, 0)", x.letter(6, 0), Runs.BAD);
        due.is("9 letter(0, -1)", x.letter(0, -1), Runs.BAD);
        due.is("9 letter(0, 6)", x.letter(0, 6), Runs.BAD);
        due.is("9 far i", x.letter(Integer.MAX_VALUE, 0), Runs.BAD);
        due.is("9 far what", x.letter(0, Integer.MIN_VALUE), Runs.BAD);
        x.move(0, 0);
        due.is("9 epoch", x.letter(6, 3), 1);
        Runs.empty(x);
        x.move(0, 0);
        Runs.deliverFirst(x, 6);
        due.is("9 round", x.letter(0, 2), 1);
    }

    private static void entry() {
        SplitNodes x = three();
        due.is("10 before start()", x.entry(0, 0, 0), Runs.NONE);
        x.start();
        long[][] want = {{2, 11}, {2, -5}, {2, 11}};
        for (int j = 0; j < 3; j++) {
            due.is("10 vertex of " + j, x.entry(0, j, 0), want[j][0]);
            due.is("10 message of " + j, x.entry(0, j, 1), want[j][1]);
        }
        due.is("10 the other letter's vertex", x.entry(1, 0, 0), 3);
        due.is("10 the other letter's message", x.entry(1, 0, 1), 12);
        due.is("10 entry(0, 3, 0)", x.entry(0, 3, 0), Runs.NONE);
        due.is("10 entry(0, -1, 0)", x.entry(0, -1, 0), Runs.NONE);
        due.is("10 entry(0, 0, 2)", x.entry(0, 0, 2), Runs.NONE);
        due.is("10 entry(0, 0, -1)", x.entry(0, 0, -1), Runs.NONE);
        due.is("10 entry(2, 0, 0)", x.entry(2, 0, 0), Runs.NONE);
        due.is("10 entry(6, 0, 0)", x.entry(6, 0, 0), Runs.NONE);
        due.is("10 entry(-1, 0, 0)", x.entry(-1, 0, 0), Runs.NONE);
        messages(0, Integer.MAX_VALUE, 1, Integer.MIN_VALUE);
        messages(1, Integer.MAX_VALUE, -1, -1);
        messages(1, -7, 1000, -7);
        messages(2, Integer.MAX_VALUE, 1000, -1000);
        messages(3, Integer.MIN_VALUE, -1, Integer.MAX_VALUE);
    }

    private static void messages(int kind, int value, int w, long want) {
        SplitNodes x = new SplitNodes();
        x.vertex(0, value);
        x.vertex(1, 0);
        x.arc(0, 1, w);
        x.kind(kind);
        x.start();
        due.is("10 message of kind " + kind, x.entry(0, 0, 1), want);
    }

    private static void deliver() {
        SplitNodes x = Runs.pair(2, 0);
        due.is("11 before start()", x.deliver(0), Runs.BAD);
        x.start();
        due.is("11 deliver(2)", x.deliver(2), Runs.BAD);
        due.is("11 deliver(-1)", x.deliver(-1), Runs.BAD);
        x.copy(0);
        x.copy(1);
        due.is("11 taken", x.deliver(0), 0);
        due.is("11 it goes out of the net, another is written", x.told(4), 4);
        due.is("11 what was behind comes up", x.letter(0, 0), 1);
        due.is("11 what is written comes behind", x.letter(3, 2), 1);
        due.is("11 a round before", x.deliver(1), 1);
        due.is("11 a letter of the round ahead", x.deliver(2), 0);
        due.is("11 it waits for its own round's", x.node(0, 0), 0);
        x.resend(1, 0);
        due.is("11 twice, of the round ahead", x.deliver(x.told(4) - 1), 2);
        due.is("11 twice changes no round", x.node(0, 0), 0);
        due.is("11 taken, and it goes on by two", x.deliver(0), 0);
        due.is("11 round", x.node(0, 0), 2);
        x.crash(1);
        due.is("11 gone", Runs.deliverTo(x, 1), 3);
        x.back();
        due.is("11 of another epoch", x.deliver(0), 1);
        due.is("11 taken ever", x.told(6), 3);
        due.is("11 twice ever", x.told(8), 1);
        due.is("11 gone ever", x.told(9), 1);
        due.is("11 old ever", x.told(7), 2);
    }

    /** In three nodes the same letter twice while the node still waits for a third one's. */
    private static void deliverAhead() {
        SplitNodes x = three();
        x.kind(2);
        x.start();
        x.copy(0);
        due.is("11 first of two", x.deliver(0), 0);
        due.is("11 the same again", x.deliver(x.told(4) - 1), 2);
        due.is("11 letters that it has", x.node(1, 3), 1);
        due.is("11 still in its round", x.node(1, 0), 0);
        due.is("11 nothing written yet", x.told(5), 6);
    }

    /** By LATEST the arc's number decides, whichever letter comes last. */
    private static void deliverLatest() {
        for (int turn = 0; turn < 2; turn++) {
            SplitNodes x = new SplitNodes();
            x.nodes(3);
            x.vertex(2, 0);
            x.vertex(0, 50);
            x.vertex(1, 70);
            x.arc(1, 0, 1);
            x.arc(2, 0, 2);
            x.arc(1, 0, 3);
            x.arc(0, 0, 9);
            x.arc(2, 0, 4);
            x.arc(1, 0, 5);
            x.kind(3);
            x.start();
            int first = turn == 0 ? 1 : 3;
            due.is("11 latest, first letter", x.deliver(first), 0);
            due.is("11 latest, second letter", x.deliver(turn == 0 ? 2 : 1), 0);
            due.is("11 latest, the arc with the greatest number", x.of(0, 0), 55);
            due.is("11 latest, active", x.of(0, 2), 1);
        }
    }

    /** Vertex 0 has the greatest arc to vertex 2 but is active in round 0 alone; vertex 1 always is. */
    private static void notActive() {
        for (int home = 0; home < 2; home++) {
            SplitNodes x = new SplitNodes();
            x.vertex(0, 0);
            x.vertex(0, 0);
            x.vertex(home, 0);
            x.arc(1, 1, 1);
            x.arc(1, 2, 10);
            x.arc(0, 2, 100);
            x.kind(3);
            x.start();
            Runs.deliverFirst(x, 2);
            due.is("11 not active: round 1", x.of(2, 0), 100);
            due.is("11 not active", x.of(0, 2), 0);
            Runs.deliverFirst(x, 2);
            due.is("11 not active: sends nothing in round 1", x.of(2, 0), 11);
            due.is("19 not active: sends nothing in round 1", x.alone(2, 2, 0), 11);
        }
    }

    private static void end() {
        SplitNodes x = new SplitNodes();
        x.vertex(0, 5);
        x.vertex(1, 5);
        x.arc(0, 1, 0);
        x.start();
        Runs.deliverFirst(x, 2);
        due.is("11 none is active in round 1", x.letter(0, 5) + x.letter(1, 5), 0);
        due.is("10 who is not active sends nothing", x.letter(0, 4) + x.letter(1, 4), 0);
        due.is("11 not ended before the letters", x.node(1, 1), 0);
        due.is("11 the last letter", Runs.deliverTo(x, 1), 0);
        due.is("11 ended", x.node(1, 1), 1);
        due.is("11 its round", x.node(1, 0), 1);
        due.is("11 letters that it had", x.node(1, 3), 1);
        due.is("11 it writes nothing", x.told(5), 4);
        x.resend(0, 1);
        due.is("11 ended: a letter of its round is old", x.deliver(2), 1);
        due.is("11 the other has not ended", x.node(0, 1), 0);
        SplitNodes y = new SplitNodes();
        y.vertex(0, 5);
        y.start();
        due.is("11 itself tells an active vertex", Runs.deliverTo(y, 0), 0);
        due.is("11 itself: not ended", y.node(0, 1), 0);
        due.is("11 another tells an active vertex", y.deliver(0), 0);
        due.is("11 another: not ended", y.node(1, 1), 0);
        due.is("11 another: next round", y.node(1, 0), 1);
    }

    private static void lastRound() {
        SplitNodes x = Runs.pair(2, 50);
        x.start();
        Runs.deliverFirst(x, 398);
        due.is("11 round 199", x.node(1, 0), 199);
        due.is("11 not ended in 199", x.node(1, 1), 0);
        due.is("11 written before the last round", x.told(5), 400);
        due.is("11 into round 200", Runs.deliverTo(x, 1), 0);
        due.is("11 round 200", x.node(1, 0), 200);
        due.is("11 ended at once", x.node(1, 1), 1);
        due.is("11 no letters of round 200", x.node(1, 3), 0);
        due.is("11 writes nothing in 200", x.told(5), 400);
        due.is("11 no mark of 200", x.node(1, 5), 150);
        due.is("11 vertices took round 199's", x.of(1, 1), 200);
        due.is("11 keeps the letter of 199 alone", x.resend(1, 0), 1);
        due.is("11 that of 199", x.letter(x.told(4) - 1, 2), 199);
        due.is("11 move with an ended node", x.move(0, 1), Runs.STATE);
        due.is("11 the other one, too", x.deliver(0), 0);
        due.is("11 both in 200", x.node(0, 0), 200);
        x.crash(0);
        due.is("11 back from the last round", x.back(), 150);
        due.is("11 not ended any more", x.node(1, 1), 0);
        due.is("11 total as in round 150", x.of(1, 1), 150);
    }

    private static void lose() {
        SplitNodes x = Runs.pair(2, 0);
        due.is("12 before start()", x.lose(0), Runs.BAD);
        x.start();
        x.copy(0);
        due.is("12 lose(3)", x.lose(3), Runs.BAD);
        due.is("12 lose(-1)", x.lose(-1), Runs.BAD);
        due.is("12 lose(0)", x.lose(0), 2);
        due.is("12 what was behind comes up", x.letter(0, 0), 1);
        due.is("12 lose(1)", x.lose(1), 1);
        due.is("12 the first stays", x.letter(0, 0), 1);
        due.is("12 lose the last", x.lose(0), 0);
        due.is("12 none left", x.lose(0), Runs.BAD);
        due.is("12 told(4)", x.told(4), 0);
        due.is("12 lost ones count as written", x.told(5), 2);
        due.is("12 nothing was taken", x.told(6) + x.told(7) + x.told(8) + x.told(9), 0);
    }

    private static void copy() {
        SplitNodes x = three();
        due.is("13 before start()", x.copy(0), Runs.BAD);
        x.start();
        due.is("13 copy(6)", x.copy(6), Runs.BAD);
        due.is("13 copy(-1)", x.copy(-1), Runs.BAD);
        due.is("13 copy(0)", x.copy(0), 7);
        due.isTrue("13 the same letter", Runs.letterPicture(x, 0).equals(Runs.letterPicture(x, 6)));
        for (int size = 8; size <= 60; size++) {
            due.is("13 copy(1)", x.copy(1), size);
        }
        due.is("13 BAD before FULL", x.copy(60), Runs.BAD);
        due.is("13 no room", x.copy(0), Runs.FULL);
        due.is("13 FULL changes nothing", x.told(4), 60);
        due.is("13 not written", x.told(5), 6);
        due.is("13 the last one is there", x.letter(59, 1), 2);
        x.lose(59);
        due.is("13 room again", x.copy(0), 60);
    }

    private static void resend() {
        SplitNodes x = Runs.pair(2, 1);
        due.is("14 before start()", x.resend(0, 1), Runs.STATE);
        due.is("14 BAD before STATE", x.resend(0, 2), Runs.BAD);
        x.start();
        due.is("14 resend(2, 0)", x.resend(2, 0), Runs.BAD);
        due.is("14 resend(0, 2)", x.resend(0, 2), Runs.BAD);
        due.is("14 resend(-1, 0)", x.resend(-1, 0), Runs.BAD);
        due.is("14 resend(0, -1)", x.resend(0, -1), Runs.BAD);
        due.is("14 one alone", x.resend(1, 1), Runs.BAD);
        due.is("14 in round 0", x.resend(0, 1), 1);
        due.is("14 it comes behind", x.letter(2, 0), 0);
        due.is("14 to whom", x.letter(2, 1), 1);
        due.is("14 not written", x.told(5), 2);
        Runs.deliverTo(x, 1);
        Runs.empty(x);
        due.is("14 in round 1", x.resend(1, 0), 2);
        due.is("14 the lesser round first", x.letter(0, 2), 0);
        due.is("14 then its own", x.letter(1, 2), 1);
        due.is("14 as it was written", x.entry(0, 0, 1), 1);
        Runs.deliverFirst(x, 2);
        due.is("14 what was lost can be made good", x.node(0, 0), 2);
        due.is("14 round 2 keeps two", x.resend(0, 1), 2);
        due.is("14 round 0's is no more", x.letter(x.told(4) - 2, 2), 1);
        Runs.fill(x);
        due.is("14 no room", x.resend(0, 1), 0);
        x.lose(0);
        due.is("14 room for one", x.resend(0, 1), 1);
        due.is("14 the lesser round's", x.letter(59, 2), 1);
        x.crash(0);
        due.is("14 BAD before STATE when down", x.resend(0, 0), Runs.BAD);
        due.is("14 the first is down", x.resend(0, 1), Runs.STATE);
        x.lose(0);
        due.is("14 to one that is down", x.resend(1, 0), 1);
        Runs.empty(x);
        due.is("14 back", x.back(), 1);
        due.is("14 those of this epoch alone", x.resend(1, 0), 1);
        due.is("14 of the epoch", x.letter(x.told(4) - 1, 3), 1);
        lostForWantOfRoomIsKept();
    }

    private static void lostForWantOfRoomIsKept() {
        SplitNodes x = Runs.pair(2, 0);
        x.start();
        Runs.fill(x);
        x.move(0, 0);
        due.is("14 no room to write", x.told(4), 60);
        due.is("14 written and lost", x.told(5), 4);
        Runs.empty(x);
        due.is("14 kept though lost", x.resend(0, 1), 1);
        due.is("14 it can be taken", x.deliver(0), 0);
    }
}
