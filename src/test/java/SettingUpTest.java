/** Promises 1 to 8: a new object, nodes, vertex, arc, kind, joined, every, start. */
final class SettingUpTest {
    private static final Due due = new Due("SettingUpTest");

    public static void main(String[] args) {
        newObject();
        nodes();
        vertex();
        arc();
        kind();
        joined();
        every();
        start();
        due.end();
    }

    private static void newObject() {
        SplitNodes x = new SplitNodes();
        for (int what = 0; what < 12; what++) {
            due.is("1 new: told(" + what + ")", x.told(what), what == 2 ? 2 : 0);
        }
        due.is("1 new: BAD", SplitNodes.BAD, -1);
        due.is("1 new: STATE", SplitNodes.STATE, -2);
        due.is("1 new: FULL", SplitNodes.FULL, -3);
        due.is("1 new: NONE", SplitNodes.NONE, Long.MIN_VALUE);
        due.is("1 new: not started", x.crash(0), Runs.STATE);
        due.is("1 new: joined is off", x.joined(false), 0);
        due.is("1 new: no third node", x.node(2, 0), Runs.BAD);
    }

    private static void nodes() {
        SplitNodes x = new SplitNodes();
        due.is("2 nodes(5)", x.nodes(5), 0);
        due.is("2 told(2)", x.told(2), 5);
        x.vertex(4, 3);
        x.vertex(0, 3);
        x.arc(0, 1, 1);
        x.kind(1);
        x.joined(true);
        x.every(4);
        x.start();
        Runs.deliverFirst(x, 20);
        x.copy(0);
        x.deliver(x.told(4) - 1);
        x.crash(1);
        x.back();
        String before = Runs.picture(x);
        for (int n : new int[] {1, 0, -1, 6, Integer.MIN_VALUE, Integer.MAX_VALUE}) {
            due.is("2 nodes(" + n + ")", x.nodes(n), Runs.BAD);
        }
        due.isTrue("2 BAD changes nothing", before.equals(Runs.picture(x)));
        due.is("2 nodes(3) when started", x.nodes(3), 2);
        due.isTrue("2 all as at first", freshWith3().equals(Runs.picture(x)));
        due.is("2 joined is off", x.joined(false), 0);
        due.is("2 not started", x.vertex(2, 8), 0);
        due.is("2 alone of the new graph", x.alone(0, 2, 0), 8);
        due.is("2 start() writes anew", x.start(), 6);
        due.is("2 no letters are left from before", x.node(0, 3), 0);
        due.is("2 no letters are kept from before", x.resend(0, 1), 1);
        due.is("2 marks anew", x.node(2, 5), 0);
        due.is("2 nodes(2)", x.nodes(2), 1);
        due.is("2 node 2 is no more", x.vertex(2, 1), Runs.BAD);
    }

    private static String freshWith3() {
        SplitNodes x = new SplitNodes();
        x.nodes(3);
        return Runs.picture(x);
    }

    private static void vertex() {
        SplitNodes x = new SplitNodes();
        due.is("3 vertex at node 2 of 2", x.vertex(2, 0), Runs.BAD);
        due.is("3 vertex at node -1", x.vertex(-1, 0), Runs.BAD);
        for (int v = 0; v < 16; v++) {
            due.is("3 vertex " + v, x.vertex(v % 2, 100 - v), v);
        }
        due.is("3 BAD before FULL", x.vertex(2, 0), Runs.BAD);
        due.is("3 a vertex too many", x.vertex(1, 0), Runs.FULL);
        due.is("3 told(0)", x.told(0), 16);
        due.is("3 value", x.of(15, 0), 85);
        due.is("3 total", x.of(15, 1), 0);
        due.is("3 active", x.of(15, 2), 1);
        due.is("3 node", x.of(15, 3), 1);
        x.start();
        due.is("3 BAD before STATE", x.vertex(7, 0), Runs.BAD);
        due.is("3 STATE before FULL", x.vertex(1, 0), Runs.STATE);
        SplitNodes y = new SplitNodes();
        due.is("3 least int", y.vertex(0, Integer.MIN_VALUE), 0);
        due.is("3 greatest int", y.vertex(1, Integer.MAX_VALUE), 1);
        due.is("3 least int told", y.of(0, 0), Integer.MIN_VALUE);
        due.is("3 greatest int told", y.of(1, 0), Integer.MAX_VALUE);
        y.start();
        due.is("3 started", y.vertex(0, 0), Runs.STATE);
        due.is("3 STATE changes nothing", y.told(0), 2);
    }

    private static void arc() {
        SplitNodes x = new SplitNodes();
        due.is("4 no vertices", x.arc(0, 0, 0), Runs.BAD);
        x.vertex(0, 1);
        x.vertex(1, 1);
        due.is("4 no vertex 2 to lead from", x.arc(2, 0, 0), Runs.BAD);
        due.is("4 no vertex 2 to lead to", x.arc(0, 2, 0), Runs.BAD);
        due.is("4 no vertex -1 to lead from", x.arc(-1, 0, 0), Runs.BAD);
        due.is("4 no vertex -1 to lead to", x.arc(0, -1, 0), Runs.BAD);
        due.is("4 weight 1001", x.arc(0, 1, 1001), Runs.BAD);
        due.is("4 weight -1001", x.arc(0, 1, -1001), Runs.BAD);
        due.is("4 weight 1000", x.arc(0, 1, 1000), 0);
        due.is("4 weight -1000", x.arc(1, 0, -1000), 1);
        due.is("4 to itself", x.arc(1, 1, 0), 2);
        for (int a = 3; a < 40; a++) {
            due.is("4 arc " + a, x.arc(0, 1, a), a);
        }
        due.is("4 BAD before FULL", x.arc(0, 1, 1001), Runs.BAD);
        due.is("4 an arc too many", x.arc(0, 1, 0), Runs.FULL);
        due.is("4 told(1)", x.told(1), 40);
        x.start();
        due.is("4 BAD before STATE", x.arc(0, 9, 0), Runs.BAD);
        due.is("4 STATE before FULL", x.arc(0, 1, 0), Runs.STATE);
        due.is("4 an entry for each arc", x.letter(0, 4), 38);
        due.is("4 weight 1000 is used", x.entry(0, 0, 1), 1001);
        due.is("4 weight -1000 is used", x.entry(1, 0, 1), -999);
    }

    private static void kind() {
        SplitNodes x = new SplitNodes();
        due.is("5 kind(-1)", x.kind(-1), Runs.BAD);
        due.is("5 kind(4)", x.kind(4), Runs.BAD);
        due.is("5 kind(2)", x.kind(2), 0);
        x.joined(true);
        due.is("5 BAD changes nothing", x.kind(4), Runs.BAD);
        due.is("5 joined stays on behind BAD", x.joined(true), 1);
        due.is("5 kind(2) again", x.kind(2), 2);
        due.is("5 joined is off behind it", x.joined(true), 0);
        due.is("5 kind(3)", x.kind(3), 2);
        due.is("5 told(3)", x.told(3), 3);
        due.is("5 kind(1)", x.kind(1), 3);
        due.is("5 joined is off", x.joined(true), 0);
        x.start();
        due.is("5 BAD before STATE", x.kind(4), Runs.BAD);
        due.is("5 started", x.kind(0), Runs.STATE);
        due.is("5 STATE leaves the kind", x.told(3), 1);
        due.is("5 STATE leaves joined", x.joined(false), 1);
    }

    private static void joined() {
        SplitNodes x = Runs.pair(0, 0);
        x.arc(0, 1, -3);
        due.is("6 joined(true)", x.joined(true), 0);
        due.is("6 joined(true) again", x.joined(true), 1);
        due.is("6 joined(false)", x.joined(false), 1);
        due.is("6 joined(false) again", x.joined(false), 0);
        x.joined(true);
        x.start();
        due.is("6 joined: one entry", x.letter(0, 4), 1);
        due.is("6 joined: the least", x.entry(0, 0, 1), -2);
        due.is("6 may change when started", x.joined(false), 1);
        due.is("6 what is written stays", x.letter(0, 4), 1);
        x.move(0, 0);
        due.is("6 what is written from now on", x.letter(2, 4), 2);
        joinedInPlaceOfTheFirst(0, 3, 19);
        joinedInPlaceOfTheFirst(1, 7, 9);
        joinedInPlaceOfTheFirst(2, 56 + 24 - 70 + 10, 90);
        SplitNodes y = Runs.pair(3, 0);
        due.is("6 on with LATEST", y.joined(true), Runs.STATE);
        due.is("6 off with LATEST", y.joined(false), 0);
        y.arc(0, 1, -3);
        y.start();
        due.is("6 LATEST keeps entries apart", y.letter(0, 4), 2);
        due.is("6 on with LATEST, started", y.joined(true), Runs.STATE);
    }

    /** Vertex 2 (value 8) has two arcs to vertex 1, vertex 3 (value 10) one to 0 and two to 1. */
    private static void joinedInPlaceOfTheFirst(int kind, long toVertex1, long toVertex0) {
        SplitNodes x = new SplitNodes();
        x.vertex(1, 0);
        x.vertex(1, 0);
        x.vertex(0, 8);
        x.vertex(0, 10);
        x.arc(3, 0, 9);
        x.arc(2, 1, 7);
        x.arc(3, 1, -7);
        x.arc(2, 1, 3);
        x.arc(3, 1, 1);
        x.kind(kind);
        x.joined(true);
        x.start();
        due.is("6 kind " + kind + " entries", x.letter(0, 4), 2);
        due.is("6 kind " + kind + " first vertex", x.entry(0, 0, 0), 1);
        due.is("6 kind " + kind + " first message", x.entry(0, 0, 1), toVertex1);
        due.is("6 kind " + kind + " second vertex", x.entry(0, 1, 0), 0);
        due.is("6 kind " + kind + " second message", x.entry(0, 1, 1), toVertex0);
    }

    private static void every() {
        SplitNodes x = Runs.pair(2, 0);
        due.is("7 every(-1)", x.every(-1), Runs.BAD);
        due.is("7 every(51)", x.every(51), Runs.BAD);
        due.is("7 every(50)", x.every(50), 0);
        due.is("7 told(11)", x.told(11), 50);
        due.is("7 every(0)", x.every(0), 50);
        due.is("7 every(3)", x.every(3), 0);
        x.start();
        due.is("7 BAD before STATE", x.every(51), Runs.BAD);
        due.is("7 started", x.every(5), Runs.STATE);
        due.is("7 STATE changes nothing", x.told(11), 3);
        for (int round = 1; round < 8; round++) {
            Runs.deliverFirst(x, 2);
            due.is("7 round", x.node(0, 0), round);
            due.is("7 mark behind round " + round, x.node(0, 5), round / 3 * 3);
        }
        SplitNodes y = Runs.pair(2, 0);
        y.start();
        Runs.deliverFirst(y, 10);
        due.is("7 K 0: a mark of round 0 alone", y.node(0, 5), 0);
        due.is("7 K 0: round", y.node(0, 0), 5);
    }

    private static void start() {
        for (int n = 2; n <= 5; n++) {
            SplitNodes x = new SplitNodes();
            x.nodes(n);
            due.is("8 start() with " + n, x.start(), n * (n - 1));
            due.is("8 start() again", x.start(), Runs.STATE);
            due.is("8 told(4)", x.told(4), n * (n - 1));
            due.is("8 told(5)", x.told(5), n * (n - 1));
            int i = 0;
            for (int from = 0; from < n; from++) {
                for (int to = 0; to < n; to++) {
                    if (from != to) {
                        due.is("8 from", x.letter(i, 0), from);
                        due.is("8 to", x.letter(i, 1), to);
                        i++;
                    }
                }
            }
            due.is("8 mark of round 0", x.node(n - 1, 5), 0);
            due.is("8 no vertices: taken", x.deliver(0), 0);
            Runs.deliverFirst(x, n * (n - 1) - 1);
            for (int node = 0; node < n; node++) {
                due.is("8 no vertices: ended in round 0", x.node(node, 0), 0);
                due.is("8 no vertices: ended", x.node(node, 1), 1);
                due.is("8 no vertices: letters that it had", x.node(node, 3), n - 1);
            }
        }
    }
}
