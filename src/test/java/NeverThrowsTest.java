import java.util.Random;

/**
 * LANGUAGE.md, rule 7: no call throws, for any arguments in any state. The answers are looked at
 * elsewhere; here an exception ends the test. Behind the 512th call answers are free, but they come.
 */
final class NeverThrowsTest {
    private static final int OBJECTS = 300;
    private static final int CALLS = 2000;
    private static final int[] ODD = {Runs.MIN, Runs.MIN + 1, -1001, -1000, -200, -61, -2, -1, 5, 6, 15, 16, 17, 39,
        40, 41, 50, 51, 59, 60, 61, 199, 200, 201, 1000, 1001, Runs.MAX - 1, Runs.MAX};

    private final Random random;
    private final SplitNodes x = new SplitNodes();

    private NeverThrowsTest(int seed) {
        random = new Random(seed);
    }

    public static void main(String[] args) {
        for (int seed = 0; seed < OBJECTS; seed++) {
            NeverThrowsTest run = new NeverThrowsTest(seed);
            for (int i = 0; i < CALLS; i++) {
                run.call(run.random.nextInt(40));
            }
        }
        System.out.println("NeverThrowsTest: " + OBJECTS + " objects, " + CALLS + " calls each, none threw");
    }

    private int any() {
        return random.nextInt(6) == 0 ? ODD[random.nextInt(ODD.length)] : random.nextInt(5);
    }

    private void call(int which) {
        switch (which) {
            case 0 -> again();
            case 1, 2 -> x.vertex(any(), any());
            case 3, 4 -> x.arc(any(), any(), any());
            case 5 -> x.kind(any());
            case 6 -> x.joined(random.nextBoolean());
            case 7 -> x.every(any());
            case 8 -> x.start();
            case 9 -> x.letter(any(), any());
            case 10 -> x.entry(any(), any(), any());
            case 11 -> x.lose(any());
            case 12, 13 -> x.copy(any());
            case 14, 15, 16 -> x.resend(any(), any());
            case 17 -> x.crash(any());
            case 18, 19 -> x.back();
            case 20 -> x.move(any(), any());
            case 21 -> x.of(any(), any());
            case 22 -> x.alone(any(), any(), any());
            case 23 -> x.node(any(), any());
            case 24 -> x.told(any());
            default -> x.deliver(any());
        }
    }

    /** A graph anew, now and then one that is full. */
    private void again() {
        if (random.nextInt(10) != 0) {
            return;
        }
        x.nodes(any());
        for (int v = random.nextInt(20); v > 0; v--) {
            x.vertex(random.nextInt(x.told(2)), random.nextInt());
        }
        for (int a = random.nextInt(45); a > 0 && x.told(0) > 0; a--) {
            x.arc(random.nextInt(x.told(0)), random.nextInt(x.told(0)), any());
        }
    }
}
