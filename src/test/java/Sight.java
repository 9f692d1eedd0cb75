import java.util.ArrayList;
import java.util.List;

/** All that calls can show of an object, in portions, each of which is asked of an object of its own. */
final class Sight extends Edges {
    // A portion and a way to go on fit behind a run of some 200 calls.
    private static final int PORTION = 210;

    static final List<Call> LOOKS = looks();
    static final List<List<Call>> QUESTIONS = questions();

    private static List<List<Call>> questions() {
        List<List<Call>> questions = new ArrayList<>();
        for (List<Call> way : List.of(List.<Call>of(), endTransactions(), bringAll(), useAll())) {
            for (int from = 0; from < LOOKS.size(); from += PORTION) {
                List<Call> portion = new ArrayList<>(way);
                portion.addAll(LOOKS.subList(from, Math.min(from + PORTION, LOOKS.size())));
                questions.add(portion);
            }
        }
        return questions;
    }

    private static List<Call> looks() {
        List<Call> looks = new ArrayList<>();
        lookAtClients(looks);
        lookAtCenters(looks);
        lookAtWrites(looks);
        return looks;
    }

    private static void lookAtClients(List<Call> looks) {
        for (int client = 0; client < 6; client++) {
            looks.add(nearest(client));
            looks.add(rounds(client));
            for (int key = 0; key < 6; key++) {
                looks.add(context(client, key));
                looks.add(got(client, key));
            }
        }
    }

    private static void lookAtCenters(List<Call> looks) {
        for (int center = 0; center < 3; center++) {
            for (int key = 0; key < 6; key++) {
                looks.add(latest(center, key));
            }
            for (int partition = 0; partition < 2; partition++) {
                looks.add(clock(center, partition));
                looks.add(pending(center, partition));
                for (int k = 0; k < 41; k++) {
                    looks.add(lacks(center, partition, k));
                }
            }
            for (int to = 0; to < 3; to++) {
                looks.add(flight(center, to));
                for (int k = 0; k < 41; k++) {
                    looks.add(sent(center, to, k));
                }
            }
        }
    }

    private static void lookAtWrites(List<Call> looks) {
        for (int write = 0; write < 41; write++) {
            for (int which = 0; which < 4; which++) {
                looks.add(about(write, which));
            }
            for (int key = 0; key < 6; key++) {
                looks.add(dependency(write, key));
            }
            for (int center = 0; center < 3; center++) {
                looks.add(visible(center, write));
            }
        }
    }

    /** Whether a transaction is open, and what it has still to read, shows only when it is read on. */
    private static List<Call> endTransactions() {
        List<Call> calls = new ArrayList<>();
        for (int client = 0; client < 6; client++) {
            for (int key = 0; key < 12; key++) {
                calls.add(read(client));
            }
        }
        return calls;
    }

    private static List<Call> bringAll() {
        List<Call> calls = new ArrayList<>();
        for (int from = 0; from < 3; from++) {
            for (int to = 0; to < 3; to++) {
                for (int k = 0; k < 8 && from != to; k++) {
                    calls.add(deliver(from, to, 0));
                }
            }
        }
        for (int turn = 0; turn < 12; turn++) {
            calls.add(serve(turn % 3, turn % 2));
        }
        return calls;
    }

    private static List<Call> useAll() {
        List<Call> calls = new ArrayList<>();
        for (int client = 0; client < 6; client++) {
            calls.add(put(client, 5 - client, 1000 + client));
            for (int key = 0; key < 6; key++) {
                calls.add(get(client, key));
            }
            calls.add(begin(client, 63));
            calls.add(read(client));
        }
        return calls;
    }
}
