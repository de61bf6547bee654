import java.util.Arrays;

/**
 * A graph split over nodes that work by rounds. Nodes send the values of their vertices to one
 * another in letters that may be lost, come twice or come late; whatever comes between, each
 * round's values are those that one node alone would reach.
 */
public final class SplitNodes {
    public static final int BAD = -1, STATE = -2, FULL = -3;
    public static final long NONE = Long.MIN_VALUE;

    private static final int LEAST = 0;
    private static final int WIDEST = 1;
    private static final int SUMS = 2;
    private static final int LATEST = 3;

    private static final int TAKEN = 0;
    private static final int OLD = 1;
    private static final int TWICE = 2;
    private static final int GONE = 3;

    private static final int FEWEST_NODES = 2;
    private static final int MOST_NODES = 5;
    private static final int MOST_VERTICES = 16;
    private static final int MOST_ARCS = 40;
    private static final int MOST_WEIGHT = 1000;
    private static final int MOST_LETTERS = 60;
    private static final int MOST_EVERY = 50;
    private static final int LAST_ROUND = 200;
    private static final int NO_MARK = -1;

    private final Graph graph = new Graph();
    private final Values values = new Values();
    private final Values lone = new Values();
    private final Inbox inbox = new Inbox();
    private final Desk desk = new Desk();
    private final Net net = new Net();
    private final Node[] row = new Node[MOST_NODES];
    private final int[] outcomes = new int[GONE + 1];
    private int nodeCount;
    private int markEvery;
    private boolean joining;
    private boolean started;
    private int epoch;
    private int written;

    public SplitNodes() {
        for (int n = 0; n < MOST_NODES; n++) {
            row[n] = new Node();
        }
        nodeCount = FEWEST_NODES;
    }

    public int nodes(int n) {
        if (n < FEWEST_NODES || n > MOST_NODES) {
            return BAD;
        }
        int had = graph.vertices;
        graph.clear();
        net.clear();
        for (int i = 0; i < MOST_NODES; i++) {
            row[i].clear();
        }
        Arrays.fill(outcomes, 0);
        nodeCount = n;
        markEvery = 0;
        joining = false;
        started = false;
        epoch = 0;
        written = 0;
        return had;
    }

    public int vertex(int node, int value) {
        if (!isNode(node)) {
            return BAD;
        }
        if (started) {
            return STATE;
        }
        if (graph.vertices >= MOST_VERTICES) {
            return FULL;
        }
        int v = graph.addVertex(node, value);
        values.begin(v, value);
        return v;
    }

    public int arc(int a, int b, int w) {
        if (!isVertex(a) || !isVertex(b) || w < -MOST_WEIGHT || w > MOST_WEIGHT) {
            return BAD;
        }
        if (started) {
            return STATE;
        }
        if (graph.arcs >= MOST_ARCS) {
            return FULL;
        }
        return graph.addArc(a, b, w);
    }

    public int kind(int k) {
        if (k < LEAST || k > LATEST) {
            return BAD;
        }
        if (started) {
            return STATE;
        }
        int was = graph.kind;
        graph.kind = k;
        joining = false;
        return was;
    }

    public int joined(boolean on) {
        if (on && graph.kind == LATEST) {
            return STATE;
        }
        int was = joining ? 1 : 0;
        joining = on;
        return was;
    }

    public int every(int k) {
        if (k < 0 || k > MOST_EVERY) {
            return BAD;
        }
        if (started) {
            return STATE;
        }
        int was = markEvery;
        markEvery = k;
        return was;
    }

    public int start() {
        if (started) {
            return STATE;
        }
        started = true;
        for (int n = 0; n < nodeCount; n++) {
            comeInto(n, 0);
        }
        return net.size;
    }

    // ---- the net

    public int letter(int i, int what) {
        Letter letter = net.at(i);
        if (letter == null) {
            return BAD;
        }
        switch (what) {
            case 0: return letter.from;
            case 1: return letter.to;
            case 2: return letter.round;
            case 3: return letter.epoch;
            case 4: return letter.targets.length;
            case 5: return letter.active;
            default: return BAD;
        }
    }

    public long entry(int i, int j, int what) {
        Letter letter = net.at(i);
        if (letter == null || j < 0 || j >= letter.targets.length) {
            return NONE;
        }
        switch (what) {
            case 0: return letter.targets[j];
            case 1: return letter.messages[j];
            default: return NONE;
        }
    }

    public int deliver(int i) {
        Letter letter = net.at(i);
        if (letter == null) {
            return BAD;
        }
        net.remove(i);
        int outcome = outcomeOf(letter);
        outcomes[outcome]++;
        if (outcome == TAKEN) {
            Node reader = row[letter.to];
            reader.hold(letter);
            // The letters of the next round may have come before the last one of this round.
            for (int r = 0; r <= LAST_ROUND && isComplete(reader); r++) {
                finishRound(letter.to);
            }
        }
        return outcome;
    }

    public int lose(int i) {
        if (net.at(i) == null) {
            return BAD;
        }
        net.remove(i);
        return net.size;
    }

    public int copy(int i) {
        Letter letter = net.at(i);
        if (letter == null) {
            return BAD;
        }
        return net.add(letter) ? net.size : FULL;
    }

    public int resend(int from, int to) {
        if (!isNode(from) || !isNode(to) || from == to) {
            return BAD;
        }
        Node sender = row[from];
        if (!started || sender.down) {
            return STATE;
        }
        int sent = 0;
        for (int round = sender.round - 1; round <= sender.round; round++) {
            Letter letter = sender.keptFor(to, round);
            if (letter != null && net.add(letter)) {
                sent++;
            }
        }
        return sent;
    }

    // ---- nodes that fail

    public int crash(int node) {
        if (!isNode(node)) {
            return BAD;
        }
        if (!started || row[node].down) {
            return STATE;
        }
        row[node].fail();
        return 1;
    }

    public int back() {
        if (!started || !isAnyDown()) {
            return STATE;
        }
        int m = wholeMark();
        epoch++;
        for (int n = 0; n < nodeCount; n++) {
            Node node = row[n];
            node.goBack(m);
            copyVertices(n, node.newest.values, values);
            writeLetters(n);
        }
        return m;
    }

    public int move(int v, int node) {
        if (!isVertex(v) || !isNode(node)) {
            return BAD;
        }
        if (!started || !isLevel()) {
            return STATE;
        }
        int was = graph.home[v];
        graph.home[v] = node;
        epoch++;
        for (int n = 0; n < nodeCount; n++) {
            row[n].forgetLetters();
            row[n].forgetMarks();
            keepMark(n);
            writeLetters(n);
        }
        return was;
    }

    // ---- what there is

    public long of(int v, int what) {
        if (!isVertex(v)) {
            return NONE;
        }
        int home = graph.home[v];
        if (what == 3) {
            return home;
        }
        return row[home].down ? NONE : values.tell(v, what);
    }

    public long alone(int v, int r, int what) {
        if (!isVertex(v) || r < 0 || r > LAST_ROUND) {
            return NONE;
        }
        for (int u = 0; u < graph.vertices; u++) {
            lone.begin(u, graph.first[u]);
        }
        for (int round = 0; round < r; round++) {
            workAlone();
        }
        return lone.tell(v, what);
    }

    public int node(int n, int what) {
        if (!isNode(n)) {
            return BAD;
        }
        Node node = row[n];
        switch (what) {
            case 0: return node.round;
            case 1: return node.ended ? 1 : 0;
            case 2: return node.down ? 1 : 0;
            case 3: return node.lettersHeld();
            case 4: return graph.verticesAt(n);
            case 5: return node.newest.round;
            default: return BAD;
        }
    }

    public int told(int what) {
        switch (what) {
            case 0: return graph.vertices;
            case 1: return graph.arcs;
            case 2: return nodeCount;
            case 3: return graph.kind;
            case 4: return net.size;
            case 5: return written;
            case 6: return outcomes[TAKEN];
            case 7: return outcomes[OLD];
            case 8: return outcomes[TWICE];
            case 9: return outcomes[GONE];
            case 10: return epoch;
            case 11: return markEvery;
            default: return BAD;
        }
    }

    private boolean isNode(int n) {
        return n >= 0 && n < nodeCount;
    }

    private boolean isVertex(int v) {
        return v >= 0 && v < graph.vertices;
    }

    private boolean isAnyDown() {
        for (int n = 0; n < nodeCount; n++) {
            if (row[n].down) {
                return true;
            }
        }
        return false;
    }

    /** Whether all nodes work in one and the same round. */
    private boolean isLevel() {
        for (int n = 0; n < nodeCount; n++) {
            Node node = row[n];
            if (node.down || node.ended || node.round != row[0].round) {
                return false;
            }
        }
        return true;
    }

    private boolean isComplete(Node node) {
        return !node.ended && node.lettersHeld() == nodeCount - 1;
    }

    private boolean isMarkRound(int round) {
        return round == 0 || (markEvery > 0 && round % markEvery == 0);
    }

    private int outcomeOf(Letter letter) {
        Node reader = row[letter.to];
        if (reader.down) {
            return GONE;
        }
        if (letter.epoch != epoch || letter.round < reader.round || reader.ended) {
            return OLD;
        }
        return reader.holds(letter) ? TWICE : TAKEN;
    }

    private void finishRound(int n) {
        Node node = row[n];
        if (graph.activeAt(n, values) == 0 && !node.isToldActive()) {
            node.ended = true;
            return;
        }
        takeMessages(n);
        comeInto(n, node.round + 1);
    }

    private void takeMessages(int n) {
        inbox.clear();
        for (int arc = 0; arc < graph.arcs; arc++) {
            if (graph.leads(arc, n, n) && values.active[graph.tails[arc]]) {
                inbox.put(graph.kind, graph.heads[arc], graph.message(arc, values), arc);
            }
        }
        for (int other = 0; other < nodeCount; other++) {
            Letter letter = row[n].heldFrom(other);
            if (letter != null) {
                inbox.putAll(graph.kind, letter);
            }
        }
        for (int v = 0; v < graph.vertices; v++) {
            if (graph.home[v] == n) {
                inbox.settle(graph.kind, v, values);
            }
        }
    }

    private void workAlone() {
        inbox.clear();
        for (int arc = 0; arc < graph.arcs; arc++) {
            if (lone.active[graph.tails[arc]]) {
                inbox.put(graph.kind, graph.heads[arc], graph.message(arc, lone), arc);
            }
        }
        for (int v = 0; v < graph.vertices; v++) {
            inbox.settle(graph.kind, v, lone);
        }
    }

    private void comeInto(int n, int round) {
        Node node = row[n];
        node.enter(round);
        if (round >= LAST_ROUND) {
            node.ended = true;
            return;
        }
        if (isMarkRound(round)) {
            keepMark(n);
        }
        writeLetters(n);
    }

    private void keepMark(int n) {
        Mark mark = row[n].nextMark();
        copyVertices(n, values, mark.values);
    }

    private void copyVertices(int n, Values from, Values to) {
        for (int v = 0; v < graph.vertices; v++) {
            if (graph.home[v] == n) {
                to.copyVertex(v, from);
            }
        }
    }

    private void writeLetters(int n) {
        Node node = row[n];
        int active = graph.activeAt(n, values);
        for (int other = 0; other < nodeCount; other++) {
            if (other != n) {
                desk.gather(graph, values, n, other, joining);
                Letter letter = new Letter(epoch, node.round, n, other, active, desk);
                written++;
                node.keep(letter);
                // A letter for which the net has no room is lost, but the node still keeps it.
                net.add(letter);
            }
        }
    }

    /** The greatest round of which each node has a mark; nodes are never two marks apart. */
    private int wholeMark() {
        int newest = row[0].newest.round;
        return isMarkedByAll(newest) ? newest : row[0].older.round;
    }

    private boolean isMarkedByAll(int round) {
        for (int n = 0; n < nodeCount; n++) {
            if (row[n].newest.round != round && row[n].older.round != round) {
                return false;
            }
        }
        return true;
    }

    /** Two messages of one round to one vertex as one; LATEST has no such fold. */
    private static int fold(int kind, int a, int b) {
        switch (kind) {
            case LEAST: return Math.min(a, b);
            case WIDEST: return Math.max(a, b);
            default: return a + b;
        }
    }

    /** The vertices' nodes and first values, the arcs, and the kind. */
    private static final class Graph {
        final int[] home = new int[MOST_VERTICES];
        final int[] first = new int[MOST_VERTICES];
        final int[] tails = new int[MOST_ARCS];
        final int[] heads = new int[MOST_ARCS];
        final int[] weights = new int[MOST_ARCS];
        int vertices;
        int arcs;
        int kind;

        void clear() {
            vertices = 0;
            arcs = 0;
            kind = LEAST;
        }

        int addVertex(int node, int value) {
            home[vertices] = node;
            first[vertices] = value;
            return vertices++;
        }

        int addArc(int a, int b, int w) {
            tails[arcs] = a;
            heads[arcs] = b;
            weights[arcs] = w;
            return arcs++;
        }

        boolean leads(int arc, int from, int to) {
            return home[tails[arc]] == from && home[heads[arc]] == to;
        }

        int message(int arc, Values values) {
            int x = values.value[tails[arc]];
            int w = weights[arc];
            switch (kind) {
                case WIDEST: return Math.min(x, w);
                case SUMS: return x * w;
                default: return x + w;
            }
        }

        int verticesAt(int n) {
            int found = 0;
            for (int v = 0; v < vertices; v++) {
                if (home[v] == n) {
                    found++;
                }
            }
            return found;
        }

        int activeAt(int n, Values values) {
            int found = 0;
            for (int v = 0; v < vertices; v++) {
                if (home[v] == n && values.active[v]) {
                    found++;
                }
            }
            return found;
        }
    }

    /** What changes of the vertices from round to round. */
    private static final class Values {
        final int[] value = new int[MOST_VERTICES];
        final int[] total = new int[MOST_VERTICES];
        final boolean[] active = new boolean[MOST_VERTICES];

        void begin(int v, int first) {
            value[v] = first;
            total[v] = 0;
            active[v] = true;
        }

        void copyVertex(int v, Values from) {
            value[v] = from.value[v];
            total[v] = from.total[v];
            active[v] = from.active[v];
        }

        long tell(int v, int what) {
            switch (what) {
                case 0: return value[v];
                case 1: return total[v];
                case 2: return active[v] ? 1 : 0;
                default: return NONE;
            }
        }
    }

    /** The messages of one round, folded for each vertex as they come. */
    private static final class Inbox {
        final boolean[] any = new boolean[MOST_VERTICES];
        final int[] folded = new int[MOST_VERTICES];
        final int[] latestArc = new int[MOST_VERTICES];

        void clear() {
            for (int v = 0; v < MOST_VERTICES; v++) {
                any[v] = false;
            }
        }

        void put(int kind, int v, int message, int arc) {
            // Letters come in any order, so LATEST goes by the arc's number, not by who came last.
            if (!any[v] || (kind == LATEST && arc > latestArc[v])) {
                any[v] = true;
                folded[v] = message;
                latestArc[v] = arc;
            } else if (kind != LATEST) {
                folded[v] = fold(kind, folded[v], message);
            }
        }

        void putAll(int kind, Letter letter) {
            for (int j = 0; j < letter.targets.length; j++) {
                put(kind, letter.targets[j], letter.messages[j], letter.arcs[j]);
            }
        }

        /** The vertex takes what was sent to it. */
        void settle(int kind, int v, Values values) {
            int before = values.value[v];
            int after = valueAfter(kind, v, before);
            values.value[v] = after;
            if (kind == SUMS) {
                values.total[v] += after;
                values.active[v] = after != 0;
            } else {
                values.active[v] = after != before;
            }
        }

        private int valueAfter(int kind, int v, int before) {
            if (!any[v]) {
                return kind == SUMS ? 0 : before;
            }
            boolean beforeCounts = kind == LEAST || kind == WIDEST;
            return beforeCounts ? fold(kind, before, folded[v]) : folded[v];
        }
    }

    /** Where a node puts the entries of one letter together before it is written. */
    private static final class Desk {
        final int[] targets = new int[MOST_ARCS];
        final int[] messages = new int[MOST_ARCS];
        final int[] arcs = new int[MOST_ARCS];
        int size;

        void gather(Graph graph, Values values, int from, int to, boolean joining) {
            size = 0;
            for (int v = 0; v < graph.vertices; v++) {
                if (graph.home[v] == from && values.active[v]) {
                    gatherOf(v, graph, values, to, joining);
                }
            }
        }

        private void gatherOf(int v, Graph graph, Values values, int to, boolean joining) {
            for (int arc = 0; arc < graph.arcs; arc++) {
                int target = graph.heads[arc];
                if (graph.tails[arc] == v && graph.home[target] == to) {
                    int message = graph.message(arc, values);
                    int place = joining ? placeOf(target) : size;
                    if (place < size) {
                        messages[place] = fold(graph.kind, messages[place], message);
                    } else {
                        append(target, message, arc);
                    }
                }
            }
        }

        private int placeOf(int target) {
            for (int j = 0; j < size; j++) {
                if (targets[j] == target) {
                    return j;
                }
            }
            return size;
        }

        private void append(int target, int message, int arc) {
            targets[size] = target;
            messages[size] = message;
            arcs[size] = arc;
            size++;
        }
    }

    /** Never changed once written, so that the net and the nodes may share it. */
    private static final class Letter {
        final int epoch;
        final int round;
        final int from;
        final int to;
        final int active;
        final int[] targets;
        final int[] messages;
        final int[] arcs;

        Letter(int epoch, int round, int from, int to, int active, Desk desk) {
            this.epoch = epoch;
            this.round = round;
            this.from = from;
            this.to = to;
            this.active = active;
            targets = Arrays.copyOf(desk.targets, desk.size);
            messages = Arrays.copyOf(desk.messages, desk.size);
            arcs = Arrays.copyOf(desk.arcs, desk.size);
        }
    }

    /** The row of letters that are under way. */
    private static final class Net {
        final Letter[] letters = new Letter[MOST_LETTERS];
        int size;

        void clear() {
            for (int i = 0; i < MOST_LETTERS; i++) {
                letters[i] = null;
            }
            size = 0;
        }

        Letter at(int i) {
            return i >= 0 && i < size ? letters[i] : null;
        }

        boolean add(Letter letter) {
            if (size >= MOST_LETTERS) {
                return false;
            }
            letters[size] = letter;
            size++;
            return true;
        }

        void remove(int i) {
            for (int j = i + 1; j < size; j++) {
                letters[j - 1] = letters[j];
            }
            size--;
            letters[size] = null;
        }
    }

    /** A node's vertices as they were when it came into a round. */
    private static final class Mark {
        final Values values = new Values();
        int round = NO_MARK;
    }

    /**
     * A node's own state. It never needs letters of more than two rounds that follow one another
     * (nodes are at most one round apart), so a letter's slot goes by whether its round is odd.
     */
    private static final class Node {
        final Letter[] held = new Letter[2 * MOST_NODES];
        final Letter[] kept = new Letter[2 * MOST_NODES];
        Mark newest = new Mark();
        Mark older = new Mark();
        int round;
        boolean ended;
        boolean down;

        private static int slot(int round, int other) {
            return (round & 1) * MOST_NODES + other;
        }

        void clear() {
            forgetLetters();
            forgetMarks();
            round = 0;
            ended = false;
            down = false;
        }

        void forgetLetters() {
            for (int i = 0; i < 2 * MOST_NODES; i++) {
                held[i] = null;
                kept[i] = null;
            }
        }

        void forgetMarks() {
            newest.round = NO_MARK;
            older.round = NO_MARK;
        }

        void enter(int next) {
            for (int other = 0; other < MOST_NODES; other++) {
                held[slot(round, other)] = null;
                kept[slot(next, other)] = null;
            }
            round = next;
        }

        void hold(Letter letter) {
            held[slot(letter.round, letter.from)] = letter;
        }

        boolean holds(Letter letter) {
            return held[slot(letter.round, letter.from)] != null;
        }

        Letter heldFrom(int other) {
            return held[slot(round, other)];
        }

        int lettersHeld() {
            int found = 0;
            for (int other = 0; other < MOST_NODES; other++) {
                if (heldFrom(other) != null) {
                    found++;
                }
            }
            return found;
        }

        boolean isToldActive() {
            for (int other = 0; other < MOST_NODES; other++) {
                Letter letter = heldFrom(other);
                if (letter != null && letter.active > 0) {
                    return true;
                }
            }
            return false;
        }

        void keep(Letter letter) {
            kept[slot(letter.round, letter.to)] = letter;
        }

        Letter keptFor(int other, int ofRound) {
            return kept[slot(ofRound, other)];
        }

        /** The older of the two marks is given up for one of this round. */
        Mark nextMark() {
            swapMarks();
            newest.round = round;
            return newest;
        }

        private void swapMarks() {
            Mark mark = older;
            older = newest;
            newest = mark;
        }

        void fail() {
            forgetLetters();
            ended = false;
            down = true;
        }

        void goBack(int m) {
            if (newest.round != m) {
                swapMarks();
                older.round = NO_MARK;
            }
            forgetLetters();
            round = m;
            ended = false;
            down = false;
        }
    }
}
