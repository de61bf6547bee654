import java.util.ArrayList;
import java.util.List;
import java.util.function.Consumer;
import java.util.function.ToLongFunction;

/**
 * A run of calls that can be made anew, each time on a new object. Each question is put to an object
 * of its own: so none is used for more than the document's 512 calls, and no question can change
 * what the next one is answered.
 */
final class Script {
    private final List<Consumer<SplitNodes>> steps;

    Script() {
        this(List.of());
    }

    private Script(List<Consumer<SplitNodes>> steps) {
        this.steps = steps;
    }

    Script then(Consumer<SplitNodes> step) {
        List<Consumer<SplitNodes>> more = new ArrayList<>(steps);
        more.add(step);
        return new Script(more);
    }

    SplitNodes object() {
        SplitNodes x = new SplitNodes();
        for (Consumer<SplitNodes> step : steps) {
            step.accept(x);
        }
        return x;
    }

    long ask(ToLongFunction<SplitNodes> question) {
        return question.applyAsLong(object());
    }

    /** Looks whether a call is answered by a number below 0 and changes nothing, now or later. */
    void refuses(Due due, String call, ToLongFunction<SplitNodes> refused, long want) {
        due.is(call, ask(refused), want);
        isSame(due, call + " changes nothing", then(refused::applyAsLong));
    }

    /** Looks whether another run leaves an object that answers as this run's, now and later. */
    void isSame(Due due, String what, Script other) {
        List<Script> ours = futures();
        List<Script> others = other.futures();
        for (int i = 0; i < ours.size(); i++) {
            due.isTrue(what + " (future " + i + ")", ours.get(i).picture().equals(others.get(i).picture()));
        }
    }

    /** Ways to go on that bring to light what no question asks for: letters kept and had, marks. */
    private List<Script> futures() {
        return List.of(
            this,
            then(SplitNodes::start).then(x -> x.move(0, 1)),
            then(Runs::resendAll),
            then(x -> Runs.deliverFirst(x, x.told(4))),
            then(x -> x.crash(1)).then(SplitNodes::back),
            then(Script::graphOfOne).then(Runs::resendAll),
            then(Script::graphOfOne).then(x -> Runs.deliverFirst(x, x.told(4))));
    }

    /** One vertex more that stays active by LEAST, and the start; both refused once it has started. */
    private static void graphOfOne(SplitNodes x) {
        x.vertex(0, 6);
        x.arc(0, 0, -1);
        x.start();
    }

    /** All that can be asked behind the run, as one text. */
    private String picture() {
        StringBuilder s = new StringBuilder();
        int vertices = (int) ask(x -> x.told(0));
        int nodes = (int) ask(x -> x.told(2));
        int letters = (int) ask(x -> x.told(4));
        add(s, 12, what -> ask(x -> x.told(what)));
        add(s, 1, what -> ask(x -> x.joined(false)));
        for (int i = 0; i < nodes; i++) {
            int n = i;
            add(s, 6, what -> ask(x -> x.node(n, what)));
        }
        for (int i = 0; i < vertices; i++) {
            int v = i;
            add(s, 4, what -> ask(x -> x.of(v, what)));
            add(s, 3, what -> ask(x -> x.alone(v, 2, what)));
        }
        for (int i = 0; i < letters; i++) {
            addLetter(s, i);
        }
        return s.toString();
    }

    private void addLetter(StringBuilder s, int i) {
        add(s, 6, what -> ask(x -> x.letter(i, what)));
        int entries = (int) ask(x -> x.letter(i, 4));
        for (int k = 0; k < entries; k++) {
            int j = k;
            add(s, 2, what -> ask(x -> x.entry(i, j, what)));
        }
    }

    private interface Question {
        long answer(int what);
    }

    private static void add(StringBuilder s, int questions, Question question) {
        for (int what = 0; what < questions; what++) {
            s.append(question.answer(what)).append(' ');
        }
        s.append('\n');
    }
}
