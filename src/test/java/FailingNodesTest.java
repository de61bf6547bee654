/** Promises 15 to 17: crash, back, move. */
final class FailingNodesTest {
    private static final Due due = new Due("FailingNodesTest");

    public static void main(String[] args) {
        crash();
        back();
        backToOlderMark();
        backWithRoundZeroAlone();
        move();
        moveAndBack();
        moveRefused();
        due.end();
    }

    private static void crash() {
        SplitNodes x = Runs.pair(2, 1);
        due.is("15 before start()", x.crash(0), Runs.STATE);
        due.is("15 BAD before STATE", x.crash(2), Runs.BAD);
        x.start();
        due.is("15 crash(2)", x.crash(2), Runs.BAD);
        due.is("15 crash(-1)", x.crash(-1), Runs.BAD);
        Runs.deliverTo(x, 1);
        Runs.deliverTo(x, 0);
        Runs.deliverTo(x, 0);
        due.is("15 round before", x.node(0, 0), 2);
        x.resend(1, 0);
        due.is("15 crash(0)", x.crash(0), 1);
        due.is("15 it is down", x.crash(0), Runs.STATE);
        due.is("15 round as it was", x.node(0, 0), 2);
        due.is("15 ended", x.node(0, 1), 0);
        due.is("15 down", x.node(0, 2), 1);
        due.is("15 letters", x.node(0, 3), 0);
        due.is("15 vertices", x.node(0, 4), 1);
        due.is("15 its marks stay", x.node(0, 5), 2);
        due.is("15 value is lost", x.of(0, 0), Runs.NONE);
        due.is("15 total is lost", x.of(0, 1), Runs.NONE);
        due.is("15 active is lost", x.of(0, 2), Runs.NONE);
        due.is("15 its node is known", x.of(0, 3), 0);
        due.is("15 the other's stay", x.of(1, 0), 1);
        due.is("15 alone is told", x.alone(0, 2, 1), 2);
        due.is("15 a letter to it is gone", Runs.deliverTo(x, 0), 3);
        due.is("15 what it sent before is taken", Runs.deliverTo(x, 1), 0);
        due.is("15 the other goes on with it", x.node(1, 0), 2);
        due.is("15 crash(1)", x.crash(1), 1);
        due.is("15 both down: back()", x.back(), 2);
        crashOfWaitingAndEnded();
    }

    private static void crashOfWaitingAndEnded() {
        SplitNodes x = new SplitNodes();
        x.nodes(3);
        x.start();
        x.deliver(0);
        due.is("15 has a letter", x.node(1, 3), 1);
        x.crash(1);
        due.is("15 has it no more", x.node(1, 3), 0);
        Runs.deliverTo(x, 0);
        Runs.deliverTo(x, 0);
        due.is("15 ended", x.node(0, 1), 1);
        due.is("15 crash of an ended one", x.crash(0), 1);
        due.is("15 not ended any more", x.node(0, 1), 0);
        due.is("15 no letters any more", x.node(0, 3), 0);
    }

    private static void back() {
        SplitNodes x = Runs.pair(2, 2);
        due.is("16 before start()", x.back(), Runs.STATE);
        x.start();
        due.is("16 none is down", x.back(), Runs.STATE);
        due.is("16 STATE changes nothing", x.told(10), 0);
        Runs.deliverFirst(x, 10);
        due.is("16 round 5", x.node(0, 0), 5);
        due.is("16 total", x.of(0, 1), 5);
        x.copy(0);
        x.crash(0);
        due.is("16 back()", x.back(), 4);
        due.is("16 epoch", x.told(10), 1);
        for (int n = 0; n < 2; n++) {
            due.is("16 round", x.node(n, 0), 4);
            due.is("16 not down", x.node(n, 2), 0);
            due.is("16 no letters", x.node(n, 3), 0);
            due.is("16 mark", x.node(n, 5), 4);
            due.is("16 total as marked", x.of(n, 1), 4);
        }
        due.is("16 letters written behind", x.told(4), 5);
        due.is("16 written", x.told(5), 14);
        due.is("16 node 0's first", x.letter(3, 0), 0);
        due.is("16 of round m", x.letter(3, 2), 4);
        due.is("16 of the epoch", x.letter(4, 3), 1);
        due.is("16 none is down any more", x.back(), Runs.STATE);
        due.is("16 what was under way is old", x.deliver(0), 1);
        Runs.deliverFirst(x, 2);
        Runs.deliverFirst(x, 2);
        due.is("16 works on", x.of(0, 1), 5);
    }

    /** Node 1 is in round 2 and marked, node 0 still in round 1: the whole mark is an older one. */
    private static void backToOlderMark() {
        SplitNodes x = Runs.pair(2, 2);
        x.start();
        Runs.deliverFirst(x, 6);
        Runs.deliverTo(x, 1);
        due.is("16 node 0", x.node(0, 0), 3);
        due.is("16 node 1", x.node(1, 0), 4);
        due.is("16 node 0's mark", x.node(0, 5), 2);
        due.is("16 node 1's mark", x.node(1, 5), 4);
        x.crash(1);
        due.is("16 the greatest that each has", x.back(), 2);
        due.is("16 marks up to m alone", x.node(1, 5), 2);
        due.is("16 total of the ahead one", x.of(1, 1), 2);
        due.is("16 round of the ahead one", x.node(1, 0), 2);
        Runs.empty(x);
        x.resend(0, 1);
        x.resend(1, 0);
        Runs.deliverFirst(x, 2);
        x.crash(0);
        due.is("16 again to the same mark", x.back(), 2);
        due.is("16 epoch", x.told(10), 2);
        Runs.empty(x);
        x.resend(0, 1);
        x.resend(1, 0);
        Runs.deliverFirst(x, 2);
        Runs.deliverTo(x, 0);
        due.is("16 now node 0 is ahead", x.node(0, 5), 4);
        x.crash(0);
        due.is("16 node 1's mark of 4 is no more", x.back(), 2);
        due.is("16 total of node 1", x.of(1, 1), 2);
    }

    private static void backWithRoundZeroAlone() {
        SplitNodes x = new SplitNodes();
        x.vertex(0, 9);
        x.vertex(1, 0);
        x.arc(1, 0, 3);
        x.start();
        Runs.deliverFirst(x, 6);
        due.is("16 both ended", x.node(0, 1) + x.node(1, 1), 2);
        due.is("16 value at the end", x.of(0, 0), 3);
        x.crash(1);
        due.is("16 K 0", x.back(), 0);
        due.is("16 not ended", x.node(0, 1), 0);
        due.is("16 value at first", x.of(0, 0), 9);
        due.is("16 active at first", x.of(0, 2), 1);
        Runs.deliverFirst(x, 6);
        due.is("16 the same end", x.of(0, 0), 3);
        due.is("16 ended again", x.node(0, 1) + x.node(1, 1), 2);
    }

    private static void move() {
        SplitNodes x = new SplitNodes();
        x.nodes(3);
        x.vertex(0, 2);
        x.vertex(0, 3);
        x.vertex(1, 5);
        x.arc(0, 1, 2);
        x.arc(1, 2, 3);
        x.arc(2, 0, 1);
        x.kind(2);
        x.every(4);
        due.is("17 before start()", x.move(0, 1), Runs.STATE);
        due.is("17 BAD before STATE", x.move(3, 0), Runs.BAD);
        x.start();
        due.is("17 move(3, 0)", x.move(3, 0), Runs.BAD);
        due.is("17 move(-1, 0)", x.move(-1, 0), Runs.BAD);
        due.is("17 move(0, 3)", x.move(0, 3), Runs.BAD);
        due.is("17 move(0, -1)", x.move(0, -1), Runs.BAD);
        Runs.deliverFirst(x, 6);
        due.is("17 values of round 1", x.of(0, 0) * 10000 + x.of(1, 0) * 100 + x.of(2, 0), 50409);
        x.deliver(0);
        due.is("17 move(1, 2)", x.move(1, 2), 0);
        due.is("17 at another node", x.of(1, 3), 2);
        due.is("17 vertices there", x.node(2, 4), 1);
        due.is("17 vertices left", x.node(0, 4), 1);
        due.is("17 value as it is", x.of(1, 0), 4);
        due.is("17 total as it is", x.of(1, 1), 4);
        due.is("17 active as it is", x.of(1, 2), 1);
        due.is("17 epoch", x.told(10), 1);
        due.is("17 written anew", x.told(5), 18);
        due.is("17 in the net", x.told(4), 11);
        for (int n = 0; n < 3; n++) {
            due.is("17 round as it is", x.node(n, 0), 1);
            due.is("17 no letters of others", x.node(n, 3), 0);
            due.is("17 a mark of its round", x.node(n, 5), 1);
            due.is("17 keeps those of this epoch", x.resend(n, (n + 1) % 3), 1);
        }
        due.isTrue("17 the new home sends", "0 2 1 1 1 1 1:10 ".equals(Runs.letterPicture(x, 6)));
        due.isTrue("17 to the old one's", "2 1 1 1 1 1 2:12 ".equals(Runs.letterPicture(x, 10)));
        due.is("17 of the epoch before", x.deliver(0), 1);
        due.is("17 to its own node", x.move(1, 2), 2);
        due.is("17 epoch is one more then, too", x.told(10), 2);
        due.is("17 written then, too", x.told(5), 24);
    }

    private static void moveAndBack() {
        SplitNodes x = Runs.pair(2, 4);
        x.start();
        Runs.deliverFirst(x, 10);
        due.is("17 round 5", x.node(0, 0), 5);
        due.is("17 move(0, 1)", x.move(0, 1), 0);
        due.is("17 both there", x.node(1, 4), 2);
        due.is("17 among themselves", x.letter(x.told(4) - 1, 4), 0);
        due.is("17 tells both active", x.letter(x.told(4) - 1, 5), 2);
        Runs.deliverFirst(x, 2);
        Runs.deliverFirst(x, 4);
        due.is("17 round 7", x.node(1, 0), 7);
        due.is("17 mark of 5 stays the last", x.node(1, 5), 5);
        due.is("17 totals go on", x.of(0, 1) * 100 + x.of(1, 1), 707);
        x.crash(1);
        due.is("17 crash loses both", x.of(0, 0), Runs.NONE);
        due.is("17 back to the mark of the move", x.back(), 5);
        due.is("17 total as marked", x.of(0, 1), 5);
        due.is("17 where it moved to", x.of(0, 3), 1);
        Runs.empty(x);
        x.resend(0, 1);
        x.resend(1, 0);
        Runs.deliverFirst(x, 6);
        due.is("17 marks by K again", x.node(0, 5), 8);
        Runs.deliverTo(x, 1);
        x.crash(0);
        due.is("17 back to K's", x.back(), 8);
        due.is("17 total of round 8", x.of(1, 1), 8);
    }

    private static void moveRefused() {
        SplitNodes x = Runs.pair(2, 0);
        x.start();
        Runs.deliverTo(x, 1);
        String before = Runs.picture(x);
        due.is("17 in another round", x.move(0, 1), Runs.STATE);
        due.is("17 BAD before it", x.move(0, 2), Runs.BAD);
        due.isTrue("17 STATE changes nothing", before.equals(Runs.picture(x)));
        Runs.deliverTo(x, 0);
        due.is("17 in one round again", x.move(0, 1), 0);
        x.crash(0);
        due.is("17 a node is down", x.move(0, 0), Runs.STATE);
        SplitNodes y = new SplitNodes();
        y.vertex(0, 1);
        y.start();
        Runs.deliverFirst(y, 2);
        due.is("17 round 1", y.node(0, 0) + y.node(1, 0), 2);
        Runs.deliverTo(y, 0);
        due.is("17 ended in the same round", y.node(0, 1) * 10 + y.node(0, 0), 11);
        due.is("17 a node has ended", y.move(0, 1), Runs.STATE);
    }
}
