/** Promise 1: A new object. */
final class Promise01NewObjectTest {
    private static final Due due = new Due("Promise 1: A new object");

    public static void main(String[] args) {
        constants();
        twoNodes();
        noVertices();
        kind0();
        joinedOff();
        k0();
        notStarted();
        nothingIsShared();
        due.end();
    }

    private static void constants() {
        due.sentence("BAD = -1, STATE = -2, FULL = -3; NONE = Long.MIN_VALUE");
        due.is("BAD", SplitNodes.BAD, -1);
        due.is("STATE", SplitNodes.STATE, -2);
        due.is("FULL", SplitNodes.FULL, -3);
        due.is("NONE", SplitNodes.NONE, Long.MIN_VALUE);
    }

    private static void twoNodes() {
        due.sentence("2 NODES");
        SplitNodes x = new SplitNodes();
        due.is("told(2)", x.told(2), 2);
        due.is("node(1, 0)", x.node(1, 0), 0);
        due.is("node(2, 0)", x.node(2, 0), Runs.BAD);
        due.is("vertex(2, 0)", x.vertex(2, 0), Runs.BAD);
        due.is("vertex(1, 0)", x.vertex(1, 0), 0);
        due.is("start()", x.start(), 2);
    }

    private static void noVertices() {
        due.sentence("no VERTICES");
        SplitNodes x = new SplitNodes();
        due.is("told(0)", x.told(0), 0);
        due.is("told(1)", x.told(1), 0);
        due.is("of(0, 0)", x.of(0, 0), Runs.NONE);
        due.is("of(0, 3)", x.of(0, 3), Runs.NONE);
        due.is("alone(0, 0, 0)", x.alone(0, 0, 0), Runs.NONE);
        due.is("arc(0, 0, 0)", x.arc(0, 0, 0), Runs.BAD);
        due.is("node(0, 4)", x.node(0, 4), 0);
        due.is("nodes(2)", x.nodes(2), 0);
    }

    private static void kind0() {
        due.sentence("KIND 0");
        SplitNodes x = new SplitNodes();
        due.is("told(3)", x.told(3), 0);
        x.vertex(0, 4);
        x.vertex(1, 9);
        x.arc(0, 1, 3);
        due.is("alone(1, 1, 0) by LEAST", x.alone(1, 1, 0), 7);
        due.is("kind(1)", x.kind(1), 0);
    }

    private static void joinedOff() {
        due.sentence("JOINED off");
        due.is("joined(true)", new SplitNodes().joined(true), 0);
        SplitNodes x = new SplitNodes();
        x.vertex(0, 4);
        x.vertex(1, 9);
        x.arc(0, 1, 3);
        x.arc(0, 1, 4);
        x.start();
        due.is("entries", x.letter(0, 4), 2);
    }

    private static void k0() {
        due.sentence("K 0");
        SplitNodes x = new SplitNodes();
        due.is("told(11)", x.told(11), 0);
        due.is("every(5)", x.every(5), 0);
    }

    private static void notStarted() {
        due.sentence("not started");
        SplitNodes x = new SplitNodes();
        due.is("crash(0)", x.crash(0), Runs.STATE);
        due.is("back()", x.back(), Runs.STATE);
        due.is("resend(0, 1)", x.resend(0, 1), Runs.STATE);
        due.is("letter(0, 0)", x.letter(0, 0), Runs.BAD);
        for (int what = 4; what <= 10; what++) {
            due.is("told(" + what + ")", x.told(what), 0);
        }
        due.is("node(0, 5)", x.node(0, 5), -1);
        due.is("start()", x.start(), 2);
    }

    private static void nothingIsShared() {
        due.sentence("a new object, whatever was done with another one");
        SplitNodes other = Runs.pairInRound(1, 3).object();
        SplitNodes x = new SplitNodes();
        other.copy(0);
        due.is("told(0)", x.told(0), 0);
        due.is("told(4)", x.told(4), 0);
        due.is("told(5)", x.told(5), 0);
        due.is("vertex(0, 8)", x.vertex(0, 8), 0);
        due.is("the other's value", other.of(0, 0), 1);
    }
}
