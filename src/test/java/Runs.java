/** Small graphs and ways to drive them that several tests share. */
final class Runs {
    static final int BAD = SplitNodes.BAD;
    static final int STATE = SplitNodes.STATE;
    static final int FULL = SplitNodes.FULL;
    static final long NONE = SplitNodes.NONE;

    private Runs() {
    }

    /** Two nodes, vertex 0 at node 0 and vertex 1 at node 1, an arc each way; never ends by SUMS. */
    static SplitNodes pair(int kind, int every) {
        SplitNodes x = new SplitNodes();
        x.vertex(0, 1);
        x.vertex(1, 1);
        x.arc(0, 1, 1);
        x.arc(1, 0, 1);
        x.kind(kind);
        x.every(every);
        return x;
    }

    /** Delivers the first letter of the net so often. */
    static void deliverFirst(SplitNodes x, int times) {
        for (int i = 0; i < times; i++) {
            x.deliver(0);
        }
    }

    /** Delivers the first letter in the net that goes to a node; its answer, or BAD if there is none. */
    static int deliverTo(SplitNodes x, int node) {
        for (int i = 0; i < x.told(4); i++) {
            if (x.letter(i, 1) == node) {
                return x.deliver(i);
            }
        }
        return BAD;
    }

    static void empty(SplitNodes x) {
        for (int i = x.told(4); i > 0; i--) {
            x.lose(0);
        }
    }

    /** Copies the first letter until the net has no room. */
    static void fill(SplitNodes x) {
        for (int i = x.told(4); i < 60; i++) {
            x.copy(0);
        }
    }

    /** All that can be asked of an object without a change to it, as one text. */
    static String picture(SplitNodes x) {
        StringBuilder s = new StringBuilder();
        for (int what = 0; what < 12; what++) {
            s.append(x.told(what)).append(' ');
        }
        for (int n = 0; n < x.told(2); n++) {
            for (int what = 0; what < 6; what++) {
                s.append(x.node(n, what)).append(' ');
            }
        }
        for (int v = 0; v < x.told(0); v++) {
            for (int what = 0; what < 4; what++) {
                s.append(x.of(v, what)).append(' ');
            }
            s.append(x.alone(v, 3, 0)).append(' ');
        }
        for (int i = 0; i < x.told(4); i++) {
            s.append('\n').append(letterPicture(x, i));
        }
        return s.toString();
    }

    static String letterPicture(SplitNodes x, int i) {
        StringBuilder s = new StringBuilder();
        for (int what = 0; what < 6; what++) {
            s.append(x.letter(i, what)).append(' ');
        }
        for (int j = 0; j < x.letter(i, 4); j++) {
            s.append(x.entry(i, j, 0)).append(':').append(x.entry(i, j, 1)).append(' ');
        }
        return s.toString();
    }
}
