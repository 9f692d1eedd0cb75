/** The boundary cases that the promises 1 to 3 name: a new object, put, get. */
public final class EdgesOfWritesTest extends Edges {
    public static void main(String[] args) {
        noWritesAtFirst();
        nothingInFlightAtFirst();
        allClocksAreNoughtAtFirst();
        noTransactionsAtFirst();
        objectsAreApart();
        putAnswersTheNumber();
        putNoSuchClientOrKey();
        putBadBeforeBusyAndFull();
        putBusy();
        putBusyUntilTheEnd();
        putBusyBeforeFull();
        putFull();
        putTheFortieth();
        getAnswersTheLatest();
        getNone();
        getNoSuchClientOrKey();
        getBadBeforeBusy();
        getBusy();
        getBusyBeforeNone();
        Check.finish();
    }

    private static void noWritesAtFirst() {
        Edge edge = new Edge("promise 1", "No writes");
        for (int center = 0; center < 3; center++) {
            edge.answers(NEW, visible(center, 0), NO);
            for (int key = 0; key < 6; key++) {
                edge.answers(NEW, latest(center, key), NONE);
            }
        }
        for (int client = 0; client < 6; client++) {
            edge.answers(NEW, nearest(client), 0);
            for (int key = 0; key < 6; key++) {
                edge.answers(NEW, context(client, key), NONE);
            }
        }
        for (int key = 0; key < 6; key++) {
            edge.answers(NEW, dependency(0, key), BAD).answers(NEW, about(0, key), 0);
        }
        edge.answers(NEW, put(5, 5, 5), 0);
    }

    private static void nothingInFlightAtFirst() {
        Edge edge = new Edge("promise 1", "nothing in flight");
        for (int from = 0; from < 3; from++) {
            for (int to = 0; to < 3; to++) {
                edge.answers(NEW, flight(from, to), 0).answers(NEW, sent(from, to, 0), NONE)
                        .refuses(NEW, NO, deliver(from, to, 0));
            }
            for (int partition = 0; partition < 2; partition++) {
                edge.answers(NEW, pending(from, partition), 0).answers(NEW, lacks(from, partition, 0), NONE);
                edge.refuses(NEW, 0, serve(from, partition));
            }
        }
    }

    private static void allClocksAreNoughtAtFirst() {
        Edge edge = new Edge("promise 1", "all clocks 0");
        for (int center = 0; center < 3; center++) {
            edge.answers(NEW, clock(center, 0), 0).answers(NEW, clock(center, 1), 0);
        }
    }

    private static void noTransactionsAtFirst() {
        Edge edge = new Edge("promise 1", "no transactions");
        for (int client = 0; client < 6; client++) {
            edge.answers(NEW, rounds(client), 0).answers(NEW, begin(client, 1), YES).answers(NEW, put(client, 0, 1), 0);
            edge.refuses(NEW, NONE, read(client));
            for (int key = 0; key < 6; key++) {
                edge.answers(NEW, got(client, key), NONE);
            }
        }
    }

    private static void objectsAreApart() {
        Check is = new Check("promise 1 (a new object)");
        CausalStore one = new CausalStore();
        one.put(0, 0, 1);
        one.begin(0, 1);
        one.deliver(0, 1, 0);
        CausalStore other = new CausalStore();
        is.due("clock", 0, other.clock(0, 0) + other.clock(1, 0));
        is.due("pending", 0, other.pending(1, 0));
        is.due("flight", 0, other.flight(0, 2));
        is.due("rounds", 0, other.rounds(0));
        is.due("put of the other object", 0, other.put(0, 0, 2));
        is.due("value of the one", 1, one.about(0, 2));
        is.due("value of the other", 2, other.about(0, 2));
        is.due("put of the one", CausalStore.BUSY, one.put(0, 0, 1));
    }

    private static void putAnswersTheNumber() {
        Edge edge = new Edge("promise 2", "Answers the number of the write");
        for (int client = 0; client < 6; client++) {
            for (int key = 0; key < 6; key++) {
                edge.answers(NEW, put(client, key, -1), 0).answers(ONE_WRITE, put(client, key, -1), 1);
            }
        }
        edge.answers(BUSTLE, put(1, 3, 3), 12);
    }

    private static void putNoSuchClientOrKey() {
        Edge edge = new Edge("promise 2", "BAD when there is no such client or key");
        for (int client : NO_CLIENT) {
            edge.refuses(NEW, BAD, put(client, 0, 1)).refuses(BUSTLE, BAD, put(client, 0, 1));
        }
        for (int key : NO_KEY) {
            edge.refuses(NEW, BAD, put(0, key, 1)).refuses(BUSTLE, BAD, put(1, key, 1));
        }
        edge.answers(NEW, put(0, 0, 1), 0).answers(NEW, put(5, 5, 1), 0);
    }

    private static void putBadBeforeBusyAndFull() {
        Edge edge = new Edge("promise 2", "BAD when there is no such client or key; else BUSY; else FULL");
        edge.refuses(NEW.then(begin(0, 1)), BAD, put(0, -1, 1), put(0, 6, 1));
        edge.refuses(BUSTLE, BAD, put(0, 6, 1), put(3, 6, 1), put(4, -1, 1));
        edge.refuses(FORTY, BAD, put(0, 6, 1), put(1, -1, 1), put(2, 6, 1), put(-1, 0, 1), put(6, 0, 1));
        edge.refuses(FORTY_OF_ONE_KEY, BAD, put(0, 6, 1), put(6, 0, 1));
    }

    private static void putBusy() {
        Edge edge = new Edge("promise 2", "else BUSY");
        for (int client = 0; client < 6; client++) {
            Run open = ONE_WRITE.then(begin(client, 32));
            for (int key = 0; key < 6; key++) {
                edge.refuses(open, BUSY, put(client, key, 1));
            }
            edge.answers(open, put((client + 3) % 6, 0, 1), 1).answers(open, put((client + 1) % 6, 0, 1), 1);
        }
        edge.refuses(BUSTLE, BUSY, put(0, 0, 1), put(3, 0, 1), put(4, 1, 1));
    }

    private static void putBusyUntilTheEnd() {
        Edge edge = new Edge("terms", "A transaction is OPEN from its beginning to its end");
        Run begun = NEW.then(begin(3, 3));
        Run midway = begun.then(read(3), put(0, 0, 1), put(0, 1, 1));
        Run again = midway.then(read(3));
        Run ended = again.then(read(3));
        edge.refuses(begun, BUSY, put(3, 0, 1), get(3, 0)).refuses(midway, BUSY, put(3, 0, 1), get(3, 0));
        edge.refuses(again, BUSY, put(3, 0, 1), get(3, 0)).answers(ended, put(3, 0, 1), 2).answers(ended, get(3, 0), 0);
        edge.refuses(begun, NO, begin(3, 3)).refuses(midway, NO, begin(3, 3)).refuses(again, NO, begin(3, 3));
        edge.answers(ended, begin(3, 3), YES).refuses(ended, NONE, read(3));
    }

    private static void putBusyBeforeFull() {
        Edge edge = new Edge("promise 2", "else BUSY; else FULL");
        edge.refuses(FORTY, BUSY, put(0, 0, 1), put(0, 5, 1), put(1, 0, 1));
        Run ended = FORTY.then(read(0)).then(12, read(0));
        edge.refuses(ended, FULL, put(0, 0, 1)).refuses(ended, BUSY, put(1, 0, 1));
    }

    private static void putFull() {
        Edge edge = new Edge("promise 2", "else FULL");
        for (int key = 0; key < 6; key++) {
            edge.refuses(FORTY, FULL, put(2, key, 1), put(3, key, 1), put(4, key, 1), put(5, key, 1));
            edge.refuses(FORTY_OF_ONE_KEY, FULL, put(0, key, 1), put(1, key, 1), put(5, key, 1));
        }
        Run allDelivered = FORTY_OF_ONE_KEY.then(40, deliver(0, 1, 0)).then(serve(1, 0));
        edge.refuses(allDelivered, FULL, put(0, 0, 1), put(1, 0, 1));
        edge.answers(FORTY_OF_ONE_KEY, get(3, 0), 39).answers(FORTY_OF_ONE_KEY, deliver(0, 2, 39), YES);
        edge.answers(FORTY_OF_ONE_KEY, begin(3, 1), YES);
    }

    private static void putTheFortieth() {
        Edge edge = new Edge("constants", "FULL = -3: There are 40 writes");
        Run run = NEW.then(39, put(4, 3, 8));
        edge.answers(run, put(4, 3, 8), 39).answers(run, put(0, 0, 8), 39);
        Run forty = run.then(put(0, 0, 6));
        edge.answers(forty, about(39, 2), 6).answers(forty, about(39, 1), 4).answers(forty, latest(0, 0), 39);
        edge.answers(forty, flight(0, 1), 1).answers(forty, flight(0, 2), 1).answers(forty, context(0, 0), 39);
        edge.refuses(forty, FULL, put(0, 0, 7), put(4, 3, 7));
    }

    private static void getAnswersTheLatest() {
        Edge edge = new Edge("promise 3", "A client sees the latest write of a key at its datacenter. Answers its number");
        for (int client = 0; client < 6; client++) {
            for (int key = 0; key < 6; key++) {
                Run run = NEW.then(put(client, key, 1), put(client, key, 2));
                edge.answers(run, get(client, key), 1).answers(run, get((client + 3) % 6, key), 1);
                edge.answers(run, get((client + 1) % 6, key), NONE);
                edge.answers(run.then(get((client + 3) % 6, key)), context((client + 3) % 6, key), 1);
            }
        }
    }

    private static void getNone() {
        Edge edge = new Edge("promise 3", "NONE, and nothing is seen, when there is none");
        for (int client = 0; client < 6; client++) {
            for (int key = 0; key < 6; key++) {
                edge.refuses(NEW, NONE, get(client, key));
            }
        }
        edge.refuses(ONE_WRITE, NONE, get(0, 1), get(0, 2), get(3, 4), get(1, 0), get(5, 0));
        edge.refuses(ONE_WRITE.then(deliver(0, 1, 0)), NONE, get(1, 0), get(4, 0));
        edge.refuses(BUSTLE, NONE, get(1, 2), get(5, 1), get(2, 4));
    }

    private static void getNoSuchClientOrKey() {
        Edge edge = new Edge("promise 3", "BAD when there is no such client or key");
        for (int client : NO_CLIENT) {
            edge.refuses(ONE_WRITE, BAD, get(client, 0)).refuses(BUSTLE, BAD, get(client, 0));
        }
        for (int key : NO_KEY) {
            edge.refuses(ONE_WRITE, BAD, get(0, key)).refuses(BUSTLE, BAD, get(5, key));
        }
    }

    private static void getBadBeforeBusy() {
        Edge edge = new Edge("promise 3", "BAD when there is no such client or key; else BUSY");
        edge.refuses(ONE_WRITE.then(begin(0, 1)), BAD, get(0, -1), get(0, 6), get(0, LEAST), get(0, MOST));
        edge.refuses(BUSTLE, BAD, get(0, 6), get(3, -1), get(4, 6));
    }

    private static void getBusy() {
        Edge edge = new Edge("promise 3", "else BUSY");
        for (int client = 0; client < 6; client++) {
            Run open = NEW.then(put(client, 0, 1), begin(client, 1));
            edge.refuses(open, BUSY, get(client, 0));
            edge.answers(open, get((client + 3) % 6, 0), 0).answers(open.then(read(client)), get(client, 0), 0);
        }
        edge.refuses(BUSTLE, BUSY, get(0, 0), get(3, 1), get(3, 3), get(4, 0));
    }

    private static void getBusyBeforeNone() {
        Edge edge = new Edge("promise 3", "else BUSY");
        edge.refuses(NEW.then(begin(0, 1)), BUSY, get(0, 0), get(0, 5));
        edge.refuses(BUSTLE, BUSY, get(0, 5), get(3, 4), get(4, 5));
    }
}
