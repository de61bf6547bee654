import java.util.ArrayList;
import java.util.LinkedHashMap;
import java.util.List;
import java.util.Map;
import java.util.TreeSet;

/**
 * The document once more, by another way: since each round's values are those of one node alone,
 * a node holds no values here but its round, and what it tells and sends is read from a table of
 * rounds. It is a check of SplitNodes and shares no code with it.
 */
final class PlainModel {
    private static final int BAD = -1;
    private static final int STATE = -2;
    private static final int FULL = -3;
    private static final long NONE = Long.MIN_VALUE;

    private record Arc(int a, int b, int w) {
    }

    private record Letter(int epoch, int round, int from, int to, int active, List<long[]> entries) {
    }

    private static final class Place {
        int round;
        boolean ended;
        boolean down;
        final TreeSet<Integer> marks = new TreeSet<>();
        final List<Letter> has = new ArrayList<>();
        final List<Letter> keeps = new ArrayList<>();
    }

    private List<Integer> homes;
    private List<Integer> firsts;
    private List<Arc> arcs;
    private List<Place> places;
    private List<Letter> net;
    private List<long[][]> table;
    private int kind;
    private boolean joined;
    private int every;
    private boolean started;
    private int epoch;
    private int written;
    private int[] outcomes;

    PlainModel() {
        asAtFirst(2);
    }

    private void asAtFirst(int n) {
        homes = new ArrayList<>();
        firsts = new ArrayList<>();
        arcs = new ArrayList<>();
        places = new ArrayList<>();
        for (int i = 0; i < n; i++) {
            places.add(new Place());
        }
        net = new ArrayList<>();
        table = null;
        kind = 0;
        joined = false;
        every = 0;
        started = false;
        epoch = 0;
        written = 0;
        outcomes = new int[4];
    }

    int nodes(int n) {
        if (n < 2 || n > 5) {
            return BAD;
        }
        int had = homes.size();
        asAtFirst(n);
        return had;
    }

    int vertex(int node, int value) {
        if (!in(node, places.size())) {
            return BAD;
        }
        if (started || homes.size() == 16) {
            return started ? STATE : FULL;
        }
        homes.add(node);
        firsts.add(value);
        table = null;
        return homes.size() - 1;
    }

    int arc(int a, int b, int w) {
        if (!in(a, homes.size()) || !in(b, homes.size()) || w < -1000 || w > 1000) {
            return BAD;
        }
        if (started || arcs.size() == 40) {
            return started ? STATE : FULL;
        }
        arcs.add(new Arc(a, b, w));
        table = null;
        return arcs.size() - 1;
    }

    int kind(int k) {
        if (!in(k, 4) || started) {
            return in(k, 4) ? STATE : BAD;
        }
        int was = kind;
        kind = k;
        joined = false;
        table = null;
        return was;
    }

    int joined(boolean on) {
        if (on && kind == 3) {
            return STATE;
        }
        boolean was = joined;
        joined = on;
        return was ? 1 : 0;
    }

    int every(int k) {
        if (!in(k, 51) || started) {
            return in(k, 51) ? STATE : BAD;
        }
        int was = every;
        every = k;
        return was;
    }

    int start() {
        if (started) {
            return STATE;
        }
        started = true;
        for (int n = 0; n < places.size(); n++) {
            places.get(n).marks.add(0);
            write(n);
        }
        return net.size();
    }

    int letter(int i, int what) {
        if (!in(i, net.size()) || !in(what, 6)) {
            return BAD;
        }
        Letter l = net.get(i);
        return new int[] {l.from, l.to, l.round, l.epoch, l.entries.size(), l.active}[what];
    }

    long entry(int i, int j, int what) {
        if (!in(i, net.size()) || !in(what, 2) || !in(j, net.get(i).entries.size())) {
            return NONE;
        }
        return net.get(i).entries.get(j)[what];
    }

    int deliver(int i) {
        if (!in(i, net.size())) {
            return BAD;
        }
        Letter l = net.remove(i);
        Place p = places.get(l.to);
        int outcome = 0;
        if (p.down) {
            outcome = 3;
        } else if (l.epoch != epoch || l.round < p.round || p.ended) {
            outcome = 1;
        } else if (p.has.contains(l)) {
            outcome = 2;
        } else {
            p.has.add(l);
        }
        outcomes[outcome]++;
        while (!p.down && !p.ended && lettersOfRound(p) == places.size() - 1) {
            goOn(l.to);
        }
        return outcome;
    }

    private void goOn(int n) {
        Place p = places.get(n);
        if (activeAt(p.round, -1) == 0) {
            p.ended = true;
            return;
        }
        p.round++;
        if (p.round == 200) {
            p.ended = true;
        } else {
            if (every != 0 && p.round % every == 0) {
                p.marks.add(p.round);
                if (p.marks.size() > 2) {
                    p.marks.pollFirst();
                }
            }
            write(n);
        }
        p.keeps.removeIf(l -> l.round < p.round - 1);
    }

    int lose(int i) {
        if (!in(i, net.size())) {
            return BAD;
        }
        net.remove(i);
        return net.size();
    }

    int copy(int i) {
        if (!in(i, net.size())) {
            return BAD;
        }
        if (net.size() == 60) {
            return FULL;
        }
        net.add(net.get(i));
        return net.size();
    }

    int resend(int from, int to) {
        if (!in(from, places.size()) || !in(to, places.size()) || from == to) {
            return BAD;
        }
        if (!started || places.get(from).down) {
            return STATE;
        }
        int sent = 0;
        for (Letter l : places.get(from).keeps) {
            if (l.to == to && net.size() < 60) {
                net.add(l);
                sent++;
            }
        }
        return sent;
    }

    int crash(int node) {
        if (!in(node, places.size())) {
            return BAD;
        }
        Place p = places.get(node);
        if (!started || p.down) {
            return STATE;
        }
        p.down = true;
        p.ended = false;
        p.has.clear();
        p.keeps.clear();
        return 1;
    }

    int back() {
        if (!started || places.stream().noneMatch(p -> p.down)) {
            return STATE;
        }
        TreeSet<Integer> whole = new TreeSet<>(places.get(0).marks);
        places.forEach(p -> whole.retainAll(p.marks));
        int m = whole.last();
        epoch++;
        for (int n = 0; n < places.size(); n++) {
            Place p = places.get(n);
            p.round = m;
            p.down = false;
            p.ended = false;
            p.has.clear();
            p.keeps.clear();
            p.marks.removeIf(r -> r > m);
            write(n);
        }
        return m;
    }

    int move(int v, int node) {
        if (!in(v, homes.size()) || !in(node, places.size())) {
            return BAD;
        }
        int round = places.get(0).round;
        if (!started || places.stream().anyMatch(p -> p.down || p.ended || p.round != round)) {
            return STATE;
        }
        int was = homes.set(v, node);
        epoch++;
        for (int n = 0; n < places.size(); n++) {
            Place p = places.get(n);
            p.has.clear();
            p.keeps.clear();
            p.marks.clear();
            p.marks.add(round);
            write(n);
        }
        return was;
    }

    long of(int v, int what) {
        if (!in(v, homes.size()) || !in(what, 4)) {
            return NONE;
        }
        Place p = places.get(homes.get(v));
        if (what == 3) {
            return homes.get(v);
        }
        return p.down ? NONE : rounds().get(p.round)[v][what];
    }

    long alone(int v, int r, int what) {
        if (!in(v, homes.size()) || !in(r, 201) || !in(what, 3)) {
            return NONE;
        }
        return rounds().get(r)[v][what];
    }

    int node(int n, int what) {
        if (!in(n, places.size()) || !in(what, 6)) {
            return BAD;
        }
        Place p = places.get(n);
        int vertices = (int) homes.stream().filter(h -> h == n).count();
        int mark = p.marks.isEmpty() ? -1 : p.marks.last();
        return new int[] {p.round, p.ended ? 1 : 0, p.down ? 1 : 0, lettersOfRound(p), vertices, mark}[what];
    }

    int told(int what) {
        if (!in(what, 12)) {
            return BAD;
        }
        return new int[] {homes.size(), arcs.size(), places.size(), kind, net.size(), written,
            outcomes[0], outcomes[1], outcomes[2], outcomes[3], epoch, every}[what];
    }

    private static boolean in(int i, int end) {
        return 0 <= i && i < end;
    }

    private static int lettersOfRound(Place p) {
        return (int) p.has.stream().filter(l -> l.round == p.round).count();
    }

    private void write(int from) {
        Place p = places.get(from);
        for (int to = 0; to < places.size(); to++) {
            if (to != from) {
                Letter l = new Letter(epoch, p.round, from, to, activeAt(p.round, from), entries(p.round, from, to));
                p.keeps.add(l);
                written++;
                if (net.size() < 60) {
                    net.add(l);
                }
            }
        }
    }

    /** The active vertices of a node, or of all (-1), in a round. */
    private int activeAt(int round, int node) {
        int found = 0;
        for (int v = 0; v < homes.size(); v++) {
            if ((node < 0 || homes.get(v) == node) && rounds().get(round)[v][2] == 1) {
                found++;
            }
        }
        return found;
    }

    private List<long[]> entries(int round, int from, int to) {
        List<long[]> all = new ArrayList<>();
        for (int v = 0; v < homes.size(); v++) {
            for (Arc arc : arcs) {
                if (arc.a == v && homes.get(v) == from && homes.get(arc.b) == to && rounds().get(round)[v][2] == 1) {
                    all.add(new long[] {arc.b, message(arc, rounds().get(round)[v][0])});
                }
            }
        }
        if (!joined) {
            return all;
        }
        Map<Long, Long> one = new LinkedHashMap<>();
        for (long[] entry : all) {
            one.merge(entry[0], entry[1],
                (p, q) -> kind == 0 ? Math.min(p, q) : kind == 1 ? Math.max(p, q) : (long) (int) (p + q));
        }
        List<long[]> joint = new ArrayList<>();
        one.forEach((v, message) -> joint.add(new long[] {v, message}));
        return joint;
    }

    private long message(Arc arc, long x) {
        return kind == 1 ? Math.min(x, arc.w) : kind == 2 ? (int) (x * arc.w) : (int) (x + arc.w);
    }

    /** Value, total, active of each vertex in each round from 0 to 200. */
    private List<long[][]> rounds() {
        if (table == null) {
            table = new ArrayList<>();
            long[][] now = new long[homes.size()][];
            for (int v = 0; v < now.length; v++) {
                now[v] = new long[] {firsts.get(v), 0, 1};
            }
            for (int r = 0; r <= 200; r++) {
                table.add(now);
                now = next(now);
            }
        }
        return table;
    }

    private long[][] next(long[][] now) {
        long[][] then = new long[now.length][];
        for (int v = 0; v < now.length; v++) {
            List<Long> sent = new ArrayList<>();
            for (Arc arc : arcs) {
                if (arc.b == v && now[arc.a][2] == 1) {
                    sent.add(message(arc, now[arc.a][0]));
                }
            }
            long x = now[v][0];
            long y = x;
            for (long message : sent) {
                y = kind == 0 ? Math.min(y, message) : kind == 1 ? Math.max(y, message) : message;
            }
            long total = now[v][1];
            if (kind == 2) {
                y = (int) sent.stream().mapToLong(Long::longValue).sum();
                total = (int) (total + y);
            }
            then[v] = new long[] {y, total, (kind == 2 ? y != 0 : y != x) ? 1 : 0};
        }
        return then;
    }
}
