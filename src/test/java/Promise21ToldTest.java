/** Promise 21: told. */
final class Promise21ToldTest {
    private static final Due due = new Due("Promise 21: told");

    public static void main(String[] args) {
        beforeStart();
        afterAllKinds();
        writtenEver();
        countsStay();
        refusedDeliveries();
        noSuchWhat();
        due.end();
    }

    private static void row(String when, SplitNodes x, int... want) {
        for (int what = 0; what < 12; what++) {
            due.is(when + ": told(" + what + ")", x.told(what), want[what]);
        }
    }

    private static void beforeStart() {
        due.sentence("(5 to 10 are 0 before start())");
        row("new", new SplitNodes(), 0, 0, 2, 0, 0, 0, 0, 0, 0, 0, 0, 0);
        row("before start()", Runs.three().then(x -> x.kind(1)).then(x -> x.every(7)).object(),
            4, 5, 3, 1, 0, 0, 0, 0, 0, 0, 0, 7);
        row("behind nodes()", mixed().then(x -> x.nodes(4)).object(), 0, 0, 4, 0, 0, 0, 0, 0, 0, 0, 0, 0);
    }

    /** Letters of which 2 are taken, 5 OLD, 1 TWICE and 4 GONE; 6 are left. */
    private static Script mixed() {
        return Runs.startedPair(7)
            .then(x -> copyFirst(x, 5))
            .then(x -> x.deliver(0))
            .then(x -> deliverSecond(x, 5))
            .then(x -> x.copy(1))
            .then(x -> deliverSecond(x, 2))
            .then(x -> copyFirst(x, 9))
            .then(x -> x.crash(0))
            .then(x -> Runs.deliverFirst(x, 4));
    }

    private static void copyFirst(SplitNodes x, int times) {
        for (int i = 0; i < times; i++) {
            x.copy(0);
        }
    }

    private static void deliverSecond(SplitNodes x, int times) {
        for (int i = 0; i < times; i++) {
            x.deliver(1);
        }
    }

    private static void afterAllKinds() {
        due.sentence("4 LETTERS in THE NET, 5 WRITTEN ever, 6 taken, 7 OLD, 8 TWICE, 9 GONE, 10 EPOCH, 11 K");
        row("all answers", mixed().object(), 2, 2, 2, 2, 6, 3, 2, 5, 1, 4, 0, 7);
        row("back", mixed().then(SplitNodes::back).object(), 2, 2, 2, 2, 8, 5, 2, 5, 1, 4, 1, 7);
        row("and a move", mixed().then(SplitNodes::back).then(x -> x.move(0, 1)).object(),
            2, 2, 2, 2, 10, 7, 2, 5, 1, 4, 2, 7);
    }

    private static void writtenEver() {
        due.sentence("5 WRITTEN ever (LOST ones, too; not by resend(), copy())");
        SplitNodes x = Runs.startedPair(0).object();
        due.is("by start()", x.told(5), 2);
        x.copy(0);
        due.is("not by copy()", x.told(5), 2);
        x.resend(0, 1);
        due.is("not by resend()", x.told(5), 2);
        x.lose(0);
        due.is("lost by lose()", x.told(5), 2);
        Runs.fill(x);
        x.move(0, 0);
        due.is("lost for want of room", x.told(5), 4);
        due.is("letters", x.told(4), 60);
        x.crash(0);
        x.back();
        due.is("lost for want of room by back()", x.told(5), 6);
    }

    private static void countsStay() {
        due.sentence("ever: going BACK and MOVES take nothing off");
        SplitNodes x = Runs.pairInRound(0, 4).object();
        due.is("taken", x.told(6), 8);
        x.crash(0);
        x.back();
        due.is("taken behind back()", x.told(6), 8);
        due.is("written behind back()", x.told(5), 12);
        x.move(0, 0);
        due.is("taken behind move()", x.told(6), 8);
        due.is("written behind move()", x.told(5), 14);
    }

    private static void refusedDeliveries() {
        due.sentence("a LETTER that is not there, or LOST, is not delivered");
        SplitNodes x = Runs.startedPair(0).object();
        x.deliver(2);
        x.deliver(-1);
        x.lose(0);
        for (int what = 6; what <= 9; what++) {
            due.is("told(" + what + ")", x.told(what), 0);
        }
    }

    private static void noSuchWhat() {
        due.sentence("BAD");
        for (int what : new int[] {-1, 12, 13, Runs.MIN, Runs.MAX}) {
            new Script().refuses(due, "told(" + what + ") of a new object", x -> x.told(what), Runs.BAD);
            Runs.startedThree().refuses(due, "told(" + what + ")", x -> x.told(what), Runs.BAD);
        }
    }
}
