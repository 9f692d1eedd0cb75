/**
 * "A call with a client, key, datacenter, partition, write or place that is not there is refused; a refused call changes
 * nothing.": each call with each wrong argument, on new, busy and full objects.
 */
public final class RefusedCallsTest extends Edges {
    private static final Run[] RUNS = {NEW, ONE_WRITE, BUSTLE, FORTY, FORTY_OF_ONE_KEY, ALL_ARRIVED};
    private static final int[] WRITES_OF_RUNS = {0, 1, 12, 40, 40, 4};

    public static void main(String[] args) {
        for (int i = 0; i < RUNS.length; i++) {
            noSuchClient(RUNS[i]);
            noSuchKey(RUNS[i]);
            noSuchDatacenter(RUNS[i]);
            noSuchPartition(RUNS[i]);
            noSuchWrite(RUNS[i], WRITES_OF_RUNS[i]);
            noSuchPlaceInFlight(RUNS[i]);
            noSuchPlaceAmongThePending(RUNS[i]);
            twoWrongArguments(RUNS[i]);
        }
        lookingChangesNothing();
        bustleIsAsSaid();
        Check.finish();
    }

    private static void noSuchClient(Run run) {
        for (int client : NO_CLIENT) {
            new Edge("promise 2", "BAD when there is no such client")
                    .refuses(run, BAD, put(client, 0, 1), put(client, 5, 1));
            new Edge("promise 3", "BAD when there is no such client").refuses(run, BAD, get(client, 0), get(client, 5));
            new Edge("promise 4", "False when there is no such client")
                    .refuses(run, NO, begin(client, 1), begin(client, 63));
            new Edge("promise 5", "BAD when there is no such client").refuses(run, BAD, read(client));
            new Edge("promise 6", "BAD when there is no such client").refuses(run, BAD, got(client, 0), got(client, 5));
            new Edge("promise 7", "BAD when there is no such client").refuses(run, BAD, rounds(client));
            new Edge("promise 17", "BAD when there is no such client")
                    .refuses(run, BAD, context(client, 0), context(client, 5));
            new Edge("promise 18", "BAD when there is no such client").refuses(run, BAD, nearest(client));
        }
    }

    private static void noSuchKey(Run run) {
        for (int key : NO_KEY) {
            for (int client = 0; client < 6; client++) {
                new Edge("promise 2", "BAD when there is no such client or key").refuses(run, BAD, put(client, key, 1));
                new Edge("promise 3", "BAD when there is no such client or key").refuses(run, BAD, get(client, key));
                new Edge("promise 6", "BAD when there is no such client or key").refuses(run, BAD, got(client, key));
                new Edge("promise 17", "BAD when there is no such client or key").refuses(run, BAD, context(client, key));
            }
            for (int center = 0; center < 3; center++) {
                new Edge("promise 14", "BAD when there is no such datacenter or key").refuses(run, BAD, latest(center, key));
            }
            new Edge("promise 20", "BAD when there is no such write or key").refuses(run, BAD, dependency(0, key));
        }
    }

    private static void noSuchDatacenter(Run run) {
        for (int center : NO_CENTER) {
            for (int other = 0; other < 3; other++) {
                new Edge("promise 8", "False when there is none")
                        .refuses(run, NO, deliver(center, other, 0), deliver(other, center, 0));
                new Edge("promise 10", "0 when they are the same or not there")
                        .refuses(run, 0, flight(center, other), flight(other, center));
                new Edge("promise 11", "NONE when there is none")
                        .refuses(run, NONE, sent(center, other, 0), sent(other, center, 0));
            }
            for (int partition = 0; partition < 2; partition++) {
                new Edge("promise 9", "BAD when there is no such datacenter").refuses(run, BAD, serve(center, partition));
                new Edge("promise 12", "BAD when there is no such datacenter").refuses(run, BAD, pending(center, partition));
                new Edge("promise 13", "NONE when there is no such write, datacenter or partition")
                        .refuses(run, NONE, lacks(center, partition, 0));
                new Edge("promise 16", "BAD when there is none").refuses(run, BAD, clock(center, partition));
            }
            new Edge("promise 14", "BAD when there is no such datacenter")
                    .refuses(run, BAD, latest(center, 0), latest(center, 5));
            new Edge("promise 15", "false when one of them is not there")
                    .refuses(run, NO, visible(center, 0), visible(center, 39));
        }
    }

    private static void noSuchPartition(Run run) {
        for (int partition : NO_PARTITION) {
            for (int center = 0; center < 3; center++) {
                new Edge("promise 9", "BAD when there is no such datacenter or partition")
                        .refuses(run, BAD, serve(center, partition));
                new Edge("promise 12", "BAD when there is no such datacenter or partition")
                        .refuses(run, BAD, pending(center, partition));
                new Edge("promise 13", "NONE when there is no such write, datacenter or partition")
                        .refuses(run, NONE, lacks(center, partition, 0));
                new Edge("promise 16", "BAD when there is none").refuses(run, BAD, clock(center, partition));
            }
        }
    }

    private static void noSuchWrite(Run run, int writes) {
        // The constants are answers of other calls, which a caller may hand on unlooked-at.
        for (int write : new int[] {writes, writes + 1, 40, 41, 256, 65536, BAD, BUSY, FULL, NONE, LEAST, MOST}) {
            for (int center = 0; center < 3; center++) {
                new Edge("promise 15", "false when one of them is not there").refuses(run, NO, visible(center, write));
            }
            for (int which = 0; which < 4; which++) {
                new Edge("promise 19", "0 when there is no such write").refuses(run, 0, about(write, which));
            }
            for (int key = 0; key < 6; key++) {
                new Edge("promise 20", "BAD when there is no such write or key").refuses(run, BAD, dependency(write, key));
            }
        }
        for (int which : new int[] {-1, 4, 5, 256, 65536, LEAST, MOST}) {
            new Edge("promise 19", "0 when there is no such write, or for another which").refuses(run, 0, about(0, which));
        }
    }

    private static void noSuchPlaceInFlight(Run run) {
        for (int from = 0; from < 3; from++) {
            for (int to = 0; to < 3; to++) {
                int length = (int) run.ask(flight(from, to));
                for (int k : new int[] {length, length + 1, 40, -1, -4, 256, 65536, LEAST, MOST}) {
                    new Edge("promise 8", "False when there is none").refuses(run, NO, deliver(from, to, k));
                    new Edge("promise 11", "NONE when there is none").refuses(run, NONE, sent(from, to, k));
                }
            }
        }
    }

    private static void noSuchPlaceAmongThePending(Run run) {
        for (int center = 0; center < 3; center++) {
            for (int partition = 0; partition < 2; partition++) {
                int length = (int) run.ask(pending(center, partition));
                for (int k : new int[] {length, length + 1, 40, -1, -4, 256, 65536, LEAST, MOST}) {
                    new Edge("promise 13", "NONE when there is no such write")
                            .refuses(run, NONE, lacks(center, partition, k));
                }
            }
        }
    }

    private static void twoWrongArguments(Run run) {
        new Edge("promise 2", "BAD when there is no such client or key").refuses(run, BAD, put(-1, 6, 1), put(6, -1, 1));
        new Edge("promise 3", "BAD when there is no such client or key").refuses(run, BAD, get(-1, 6), get(6, -1));
        new Edge("promise 4", "False when there is no such client").refuses(run, NO, begin(-1, 0), begin(6, 64));
        new Edge("promise 6", "BAD when there is no such client or key").refuses(run, BAD, got(-1, 6), got(6, -1));
        // Three datacenters in a row: -1 * 3 + 4 would be the place of 0 * 3 + 1.
        new Edge("promise 8", "False when there is none")
                .refuses(run, NO, deliver(-1, 4, 0), deliver(3, -2, 0), deliver(0, 1, -1));
        new Edge("promise 9", "BAD when there is no such datacenter or partition")
                .refuses(run, BAD, serve(-1, 2), serve(3, -1));
        new Edge("promise 10", "0 when they are the same or not there")
                .refuses(run, 0, flight(-1, 4), flight(3, -2), flight(3, 3), flight(-1, -1));
        new Edge("promise 11", "NONE when there is none").refuses(run, NONE, sent(-1, 4, 0), sent(3, -2, 0), sent(3, 3, 0));
        new Edge("promise 12", "BAD when there is no such datacenter or partition")
                .refuses(run, BAD, pending(-1, 2), pending(3, -2));
        new Edge("promise 13", "NONE when there is no such write, datacenter or partition")
                .refuses(run, NONE, lacks(-1, 2, 0), lacks(3, -2, 0), lacks(3, 2, -1));
        new Edge("promise 14", "BAD when there is no such datacenter or key")
                .refuses(run, BAD, latest(-1, 6), latest(3, -6));
        new Edge("promise 15", "false when one of them is not there").refuses(run, NO, visible(-1, 40), visible(3, -1));
        new Edge("promise 16", "BAD when there is none").refuses(run, BAD, clock(-1, 2), clock(3, -2));
        new Edge("promise 17", "BAD when there is no such client or key").refuses(run, BAD, context(-1, 6), context(6, -6));
        new Edge("promise 19", "0 when there is no such write, or for another which")
                .refuses(run, 0, about(40, 4), about(-1, -1));
        new Edge("promise 20", "BAD when there is no such write or key")
                .refuses(run, BAD, dependency(40, 6), dependency(-1, -1));
    }

    /** The calls that only ask are no refused ones, but they have no other effect than their answer either. */
    private static void lookingChangesNothing() {
        Edge edge = new Edge("not promised", "Nothing is promised beyond the answers and state changes described above");
        for (Call look : Sight.LOOKS) {
            edge.changesNothing(BUSTLE, look);
        }
    }

    /** A refused call that changes something shows only where there is something to be changed. */
    private static void bustleIsAsSaid() {
        Edge edge = new Edge("the run to start from", "a store in the midst of things");
        edge.answers(BUSTLE, read(0), 2).answers(BUSTLE, rounds(0), 1).answers(BUSTLE, rounds(1), 0);
        edge.answers(BUSTLE, rounds(5), 0);
        edge.answers(BUSTLE, read(4), 2).answers(BUSTLE, rounds(4), 1).answers(BUSTLE.then(read(4)), rounds(4), 2);
        edge.answers(BUSTLE, read(3), 0).answers(BUSTLE, rounds(3), 2).answers(BUSTLE, got(3, 0), 6);
        edge.answers(BUSTLE, got(3, 1), 1);
        edge.answers(BUSTLE, read(2), NONE).answers(BUSTLE, got(2, 0), 0);
        edge.answers(BUSTLE, flight(0, 1), 4).answers(BUSTLE, flight(1, 0), 4).answers(BUSTLE, flight(2, 0), 1);
        edge.answers(BUSTLE, pending(0, 0), 1).answers(BUSTLE, pending(1, 0), 1).answers(BUSTLE, pending(1, 1), 1);
        edge.answers(BUSTLE, lacks(0, 0, 0), 0).answers(BUSTLE, lacks(1, 1, 0), 1).answers(BUSTLE, lacks(2, 1, 0), 1);
    }
}
