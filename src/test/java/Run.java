import java.util.ArrayList;
import java.util.Arrays;
import java.util.List;

/** A run of calls on a new object; it is made anew for each question, so that no question spoils another. */
final class Run {
    private static final int MOST_CALLS = 512;

    private final List<Call> calls;
    private List<long[]> shown;

    Run(Call... calls) {
        this(Arrays.asList(calls));
    }

    private Run(List<Call> calls) {
        this.calls = calls;
    }

    Run then(Call... more) {
        return then(1, more);
    }

    Run then(int times, Call... more) {
        List<Call> longer = new ArrayList<>(calls);
        for (int time = 0; time < times; time++) {
            longer.addAll(Arrays.asList(more));
        }
        return new Run(longer);
    }

    long ask(Call call) {
        return answersTo(List.of(call))[0];
    }

    /** What the object shows after the run, at once and after each way to go on. */
    List<long[]> shown() {
        if (shown == null) {
            shown = new ArrayList<>();
            for (List<Call> questions : Sight.QUESTIONS) {
                shown.add(answersTo(questions));
            }
        }
        return shown;
    }

    private long[] answersTo(List<Call> questions) {
        // Nothing is promised of an object after its 512th call, so no test may look there.
        if (calls.size() + questions.size() > MOST_CALLS) {
            throw new IllegalStateException("more than 512 calls");
        }
        CausalStore x = new CausalStore();
        for (Call call : calls) {
            call.on(x);
        }
        long[] answers = new long[questions.size()];
        for (int i = 0; i < answers.length; i++) {
            answers[i] = questions.get(i).on(x);
        }
        return answers;
    }

    @Override
    public String toString() {
        String text = calls.toString();
        return text.length() < 400 ? text : text.substring(0, 200) + " .. " + text.substring(text.length() - 200);
    }
}
