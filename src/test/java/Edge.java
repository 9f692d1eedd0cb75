import java.util.List;

/** A boundary case: the sentence of the document that names it, and the questions that are put about it. */
final class Edge {
    private final Check is;

    Edge(String where, String sentence) {
        is = new Check(where + " (" + sentence + ")");
    }

    /** After the run, the call answers what is due. */
    Edge answers(Run run, Call call, long due) {
        long got = run.ask(call);
        is.due(got == due ? "" : "after " + run + " " + call, due, got);
        return this;
    }

    /**
     * Each of the calls answers what is due, and nothing that other calls show has changed by it. A call that finds
     * nothing to do (a get of none, a serve of none) is looked at in the same way.
     */
    Edge refuses(Run run, long due, Call... calls) {
        for (Call call : calls) {
            answers(run, call, due);
            changesNothing(run, call);
        }
        return this;
    }

    /** Whatever is asked after the call is answered as if it had not been made. */
    Edge changesNothing(Run run, Call call) {
        List<long[]> without = run.shown();
        List<long[]> with = run.then(call).shown();
        for (int part = 0; part < with.size(); part++) {
            int i = firstDifference(with.get(part), without.get(part));
            is.due(i < 0 ? "" : "after " + run + ", " + call + " changed what " + Sight.QUESTIONS.get(part).get(i),
                    i < 0 ? 0 : without.get(part)[i], i < 0 ? 0 : with.get(part)[i]);
        }
        return this;
    }

    private static int firstDifference(long[] one, long[] other) {
        for (int i = 0; i < one.length; i++) {
            if (one[i] != other[i]) {
                return i;
            }
        }
        return -1;
    }
}
