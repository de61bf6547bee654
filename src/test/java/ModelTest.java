import java.util.ArrayList;
import java.util.List;
import java.util.Random;

/** Long mixed runs of at most 512 calls: every answer is compared with that of PlainModel. */
final class ModelTest {
    private static final int RUNS = 3000;
    private static final int CALLS = 512;
    private static final int[] ODD = {-1, Integer.MIN_VALUE, Integer.MAX_VALUE, 60, 16, 5};

    private final Random random;
    private final SplitNodes x = new SplitNodes();
    private final PlainModel model = new PlainModel();
    private final List<String> calls = new ArrayList<>();
    private final int[] weights;
    private boolean same = true;

    private ModelTest(int seed) {
        random = new Random(seed);
        // What a run is like: mostly delivering, mostly failing, or a bit of all.
        int[][] styles = {
            {300, 2, 4, 4, 2, 4, 1, 60},
            {120, 10, 20, 20, 6, 12, 6, 60},
            {200, 0, 0, 30, 0, 0, 30, 60},
            {400, 0, 0, 0, 0, 0, 0, 10},
            {90, 4, 90, 60, 6, 12, 12, 60},
        };
        weights = styles[seed % styles.length];
    }

    public static void main(String[] args) {
        int wrong = 0;
        for (int seed = 0; seed < RUNS; seed++) {
            ModelTest run = new ModelTest(seed);
            run.play();
            if (!run.same) {
                wrong++;
                if (wrong <= 3) {
                    System.out.println("ModelTest: run " + seed + ": " + String.join(" ", run.calls));
                }
            }
        }
        System.out.println("ModelTest: " + RUNS + " runs, " + wrong + " not as the model");
        if (wrong != 0) {
            System.exit(1);
        }
    }

    private void play() {
        setUp();
        while (same && calls.size() < CALLS) {
            if (random.nextInt(400) == 0) {
                setUp();
            } else {
                step();
            }
        }
    }

    private void compare(String call, long got, long want) {
        calls.add(got == want ? call + "=" + got : call + "=" + got + ", due is " + want);
        same &= got == want;
    }

    private int upTo(int end) {
        if (random.nextInt(60) == 0) {
            return random.nextInt(3) == 0 ? end : ODD[random.nextInt(ODD.length)];
        }
        return end <= 0 ? 0 : random.nextInt(end);
    }

    private void setUp() {
        int n = 2 + (random.nextBoolean() ? 0 : random.nextInt(4));
        compare("nodes(" + n + ")", x.nodes(n), model.nodes(n));
        int vertices = random.nextInt(20) == 0 ? 18 : 1 + random.nextInt(8);
        for (int i = 0; i < vertices; i++) {
            int value = random.nextInt(8) == 0 ? random.nextInt() : random.nextInt(40) - 10;
            int at = upTo(n);
            compare("vertex(" + at + ", " + value + ")", x.vertex(at, value), model.vertex(at, value));
        }
        int arcs = random.nextInt(20) == 0 ? 43 : random.nextInt(2 * vertices + 2);
        for (int i = 0; i < arcs; i++) {
            int a = upTo(vertices);
            int b = upTo(vertices);
            int w = random.nextInt(10) == 0 ? random.nextInt(2003) - 1001 : random.nextInt(7) - 3;
            compare("arc(" + a + ", " + b + ", " + w + ")", x.arc(a, b, w), model.arc(a, b, w));
        }
        setRules();
        for (int i = random.nextInt(4); i > 0; i--) {
            ask();
        }
        compare("start()", x.start(), model.start());
    }

    private void setRules() {
        int k = upTo(4);
        compare("kind(" + k + ")", x.kind(k), model.kind(k));
        boolean on = random.nextBoolean();
        compare("joined(" + on + ")", x.joined(on), model.joined(on));
        int every = upTo(random.nextInt(4) == 0 ? 51 : 5);
        compare("every(" + every + ")", x.every(every), model.every(every));
    }

    private void step() {
        int sum = 0;
        for (int weight : weights) {
            sum += weight;
        }
        int pick = random.nextInt(sum);
        int which = 0;
        while (pick >= weights[which]) {
            pick -= weights[which];
            which++;
        }
        act(which);
    }

    private void act(int which) {
        int size = x.told(4);
        int n = x.told(2);
        int i = random.nextInt(3) == 0 ? upTo(size) : 0;
        int a = upTo(n);
        int b = upTo(n);
        switch (which) {
            case 0 -> deliverOrResend(i, size, a, b);
            case 1 -> compare("lose(" + i + ")", x.lose(i), model.lose(i));
            case 2 -> compare("copy(" + i + ")", x.copy(i), model.copy(i));
            case 3 -> compare("resend(" + a + ", " + b + ")", x.resend(a, b), model.resend(a, b));
            case 4 -> compare("crash(" + a + ")", x.crash(a), model.crash(a));
            case 5 -> compare("back()", x.back(), model.back());
            case 6 -> {
                int v = upTo(x.told(0));
                compare("move(" + v + ", " + b + ")", x.move(v, b), model.move(v, b));
            }
            default -> ask();
        }
    }

    /** An empty net would stop a run for good. */
    private void deliverOrResend(int i, int size, int a, int b) {
        if (size > 0 || random.nextInt(5) == 0) {
            compare("deliver(" + i + ")", x.deliver(i), model.deliver(i));
        } else {
            compare("resend(" + a + ", " + b + ")", x.resend(a, b), model.resend(a, b));
        }
    }

    private void ask() {
        int i = upTo(x.told(4));
        int v = upTo(x.told(0));
        int n = upTo(x.told(2));
        int what = random.nextInt(14) - 1;
        int w = random.nextInt(30) == 0 ? what : random.nextInt(6);
        switch (random.nextInt(9)) {
            case 0 -> compare("letter(" + i + ", " + w + ")", x.letter(i, w), model.letter(i, w));
            case 1, 2 -> {
                int j = upTo(3);
                int part = random.nextInt(20) == 0 ? what : random.nextInt(2);
                compare("entry(" + i + ", " + j + ", " + part + ")", x.entry(i, j, part), model.entry(i, j, part));
            }
            case 3, 4 -> compare("of(" + v + ", " + w % 4 + ")", x.of(v, w % 4), model.of(v, w % 4));
            case 5 -> {
                int r = upTo(random.nextInt(5) == 0 ? 202 : 6);
                compare("alone(" + v + ", " + r + ", " + w % 3 + ")", x.alone(v, r, w % 3), model.alone(v, r, w % 3));
            }
            case 6 -> compare("node(" + n + ", " + w + ")", x.node(n, w), model.node(n, w));
            case 7 -> compare("told(" + what + ")", x.told(what), model.told(what));
            default -> strayRules();
        }
    }

    /** Calls that are mostly refused once it has started. */
    private void strayRules() {
        int pick = random.nextInt(12);
        int k = random.nextInt(6) - 1;
        switch (pick) {
            case 0 -> compare("kind(" + k + ")", x.kind(k), model.kind(k));
            case 1 -> compare("every(" + k + ")", x.every(k), model.every(k));
            case 2 -> compare("vertex(" + k + ", 1)", x.vertex(k, 1), model.vertex(k, 1));
            case 3 -> compare("arc(0, " + k + ", 1)", x.arc(0, k, 1), model.arc(0, k, 1));
            case 4 -> compare("start()", x.start(), model.start());
            case 5 -> compare("nodes(" + (k > 1 ? -k : k) + ")", x.nodes(k > 1 ? -k : k), model.nodes(k > 1 ? -k : k));
            default -> {
                boolean on = random.nextBoolean();
                compare("joined(" + on + ")", x.joined(on), model.joined(on));
            }
        }
    }
}
