/** The boundary cases that the promises 14 to 20 name: latest, visible, clock, context, nearest, about, dependency. */
public final class EdgesOfLooksTest extends Edges {
    private static final int[] NO_WRITE = {BAD, BUSY, FULL, NONE, 40, 41, 256, 65536, LEAST, MOST};
    private static final Run THREE_OF_TWO_PARTITIONS = NEW.then(put(0, 0, 1), put(0, 1, 2), put(0, 2, 3));

    public static void main(String[] args) {
        latestNone();
        latestFirstAndLast();
        latestNoSuchDatacenterOrKey();
        visibleFirstAndLast();
        visibleNotThere();
        clockLeastAndGreatest();
        clockIsLeftByTheOtherCalls();
        clockNone();
        contextNone();
        contextLeastAndGreatest();
        contextNoSuchClientOrKey();
        nearestOfEachKey();
        nearestNone();
        nearestNoSuchClient();
        aboutEachWhich();
        aboutAnotherWhich();
        aboutNoSuchWrite();
        dependencyNone();
        dependencyFirstAndLast();
        dependencyNoSuchWriteOrKey();
        Check.finish();
    }

    private static void latestNone() {
        Edge edge = new Edge("promise 14", "NONE when there is none");
        for (int center = 0; center < 3; center++) {
            for (int key = 0; key < 6; key++) {
                edge.answers(NEW, latest(center, key), NONE);
                edge.answers(ONE_WRITE, latest(center, key), center == 0 && key == 0 ? 0 : NONE);
            }
        }
        Run delivered = ONE_WRITE.then(deliver(0, 2, 0));
        edge.answers(delivered, latest(2, 0), NONE).answers(delivered.then(serve(2, 1)), latest(2, 0), NONE);
        edge.answers(delivered.then(serve(2, 0)), latest(2, 0), 0);
    }

    private static void latestFirstAndLast() {
        Edge edge = new Edge("promise 14", "The latest write of a key at a datacenter");
        edge.answers(FORTY_OF_ONE_KEY, latest(0, 0), 39).answers(FORTY_OF_ONE_KEY, latest(1, 0), NONE);
        edge.answers(FORTY_OF_ONE_KEY.then(deliver(0, 1, 0), serve(1, 0)), latest(1, 0), 0);
        edge.answers(NEW.then(put(2, 5, 1)), latest(2, 5), 0);
        edge.answers(NEW.then(put(0, 0, MOST), put(0, 0, LEAST)), latest(0, 0), 1);
    }

    private static void latestNoSuchDatacenterOrKey() {
        Edge edge = new Edge("promise 14", "BAD when there is no such datacenter or key");
        for (int center : NO_CENTER) {
            edge.refuses(BUSTLE, BAD, latest(center, 0), latest(center, 5)).answers(NEW, latest(center, 0), BAD);
        }
        for (int key : NO_KEY) {
            edge.refuses(BUSTLE, BAD, latest(0, key), latest(2, key)).answers(NEW, latest(0, key), BAD);
        }
    }

    private static void visibleFirstAndLast() {
        Edge edge = new Edge("promise 15", "Whether a write is visible at a datacenter");
        edge.answers(FORTY_OF_ONE_KEY, visible(0, 0), YES).answers(FORTY_OF_ONE_KEY, visible(0, 39), YES);
        edge.answers(FORTY_OF_ONE_KEY, visible(1, 0), NO).answers(FORTY_OF_ONE_KEY, visible(2, 39), NO);
        Run delivered = FORTY_OF_ONE_KEY.then(deliver(0, 2, 0), deliver(0, 2, 0));
        edge.answers(delivered, visible(2, 0), NO).answers(delivered.then(serve(2, 0)), visible(2, 0), YES);
        edge.answers(delivered.then(serve(2, 0)), visible(2, 1), YES)
                .answers(delivered.then(serve(2, 0)), visible(2, 2), NO);
        edge.answers(delivered.then(serve(2, 0)), visible(1, 0), NO);
    }

    private static void visibleNotThere() {
        Edge edge = new Edge("promise 15", "false when one of them is not there");
        for (int center = 0; center < 3; center++) {
            edge.refuses(NEW, NO, visible(center, 0)).refuses(ONE_WRITE, NO, visible(center, 1))
                    .refuses(BUSTLE, NO, visible(center, 12));
            for (int write : NO_WRITE) {
                edge.refuses(FORTY, NO, visible(center, write)).refuses(ONE_WRITE, NO, visible(center, write));
            }
        }
        for (int center : NO_CENTER) {
            edge.refuses(FORTY, NO, visible(center, 0), visible(center, 39)).refuses(ONE_WRITE, NO, visible(center, 0));
        }
    }

    private static void clockLeastAndGreatest() {
        Edge edge = new Edge("promise 16", "The clock of a partition of a datacenter");
        edge.answers(NEW, clock(0, 0), 0).answers(NEW, clock(2, 1), 0).answers(FORTY_OF_ONE_KEY, clock(0, 0), 40);
        edge.answers(FORTY_OF_ONE_KEY, clock(0, 1), 0).answers(FORTY_OF_ONE_KEY, clock(1, 0), 0);
        edge.answers(FORTY_OF_ONE_KEY.then(deliver(0, 2, 39)), clock(2, 0), 40);
        edge.answers(FORTY_OF_ONE_KEY.then(deliver(0, 2, 39)), clock(2, 1), 0);
        edge.refuses(FORTY_OF_ONE_KEY, FULL, put(0, 0, 1)).answers(FORTY_OF_ONE_KEY.then(put(0, 0, 1)), clock(0, 0), 40);
    }

    private static void clockIsLeftByTheOtherCalls() {
        Edge edge = new Edge("promise 16", "The clock of a partition of a datacenter");
        Run run = THREE_OF_TWO_PARTITIONS.then(deliver(0, 1, 0), deliver(0, 1, 0), deliver(0, 1, 0));
        edge.answers(run, clock(1, 0), 3).answers(run, clock(1, 1), 2);
        Run used = run.then(serve(1, 0), serve(1, 1), serve(1, 0), get(1, 0), get(1, 1), begin(4, 63)).then(6, read(4));
        edge.answers(used, clock(1, 0), 3).answers(used, clock(1, 1), 2).answers(used, clock(0, 0), 3)
                .answers(used, clock(2, 0), 0);
    }

    private static void clockNone() {
        Edge edge = new Edge("promise 16", "BAD when there is none");
        for (int center : NO_CENTER) {
            edge.refuses(BUSTLE, BAD, clock(center, 0), clock(center, 1)).answers(NEW, clock(center, 0), BAD);
        }
        for (int partition : NO_PARTITION) {
            edge.refuses(BUSTLE, BAD, clock(0, partition), clock(2, partition)).answers(NEW, clock(0, partition), BAD);
        }
    }

    private static void contextNone() {
        Edge edge = new Edge("promise 17", "NONE when there is none");
        for (int client = 0; client < 6; client++) {
            for (int key = 0; key < 6; key++) {
                edge.answers(NEW, context(client, key), NONE);
                edge.answers(ONE_WRITE, context(client, key), client == 0 && key == 0 ? 0 : NONE);
            }
        }
        Run arrived = ONE_WRITE.then(deliver(0, 1, 0), serve(1, 0));
        edge.answers(arrived, context(1, 0), NONE).answers(arrived.then(get(1, 1)), context(1, 0), NONE);
        edge.answers(arrived.then(get(1, 0)), context(1, 0), 0).answers(arrived.then(get(1, 0)), context(4, 0), NONE);
    }

    private static void contextLeastAndGreatest() {
        Edge edge = new Edge("promise 17", "The write of a key that a client depends on");
        edge.answers(FORTY_OF_ONE_KEY, context(0, 0), 39).answers(FORTY_OF_ONE_KEY, context(3, 0), NONE);
        edge.answers(FORTY_OF_ONE_KEY.then(get(3, 0)), context(3, 0), 39);
        edge.answers(NEW.then(put(5, 5, 1)), context(5, 5), 0);
        Run later = ONE_WRITE.then(get(3, 0), put(0, 0, 2));
        edge.answers(later, context(3, 0), 0).answers(later, context(0, 0), 1);
    }

    private static void contextNoSuchClientOrKey() {
        Edge edge = new Edge("promise 17", "BAD when there is no such client or key");
        for (int client : NO_CLIENT) {
            edge.refuses(BUSTLE, BAD, context(client, 0), context(client, 5)).answers(NEW, context(client, 0), BAD);
        }
        for (int key : NO_KEY) {
            edge.refuses(BUSTLE, BAD, context(0, key), context(5, key)).answers(NEW, context(0, key), BAD);
        }
    }

    private static void nearestOfEachKey() {
        Edge edge = new Edge("promise 18", "The sum of 2^k over the keys k of the nearest dependencies of a client");
        for (int client = 0; client < 6; client++) {
            for (int key = 0; key < 6; key++) {
                edge.answers(NEW.then(put(client, key, 1)), nearest(client), 1 << key);
                Run two = NEW.then(put(client, key, 1), put((client + 3) % 6, (key + 1) % 6, 1), get(client, (key + 1) % 6));
                edge.answers(two, nearest(client), (1 << key) + (1 << (key + 1) % 6));
                edge.answers(two.then(put(client, (key + 2) % 6, 1)), nearest(client), 1 << (key + 2) % 6);
            }
        }
    }

    private static void nearestNone() {
        Edge edge = new Edge("promise 18", "The sum of 2^k over the keys k of the nearest dependencies of a client");
        for (int client = 0; client < 6; client++) {
            edge.answers(NEW, nearest(client), 0).answers(NEW.then(get(client, 0)), nearest(client), 0);
            edge.answers(ONE_WRITE, nearest(client), client == 0 ? 1 : 0);
            edge.answers(NEW.then(begin(client, 63)).then(6, read(client)), nearest(client), 0);
        }
    }

    private static void nearestNoSuchClient() {
        Edge edge = new Edge("promise 18", "BAD when there is no such client");
        for (int client : NO_CLIENT) {
            edge.refuses(BUSTLE, BAD, nearest(client)).answers(NEW, nearest(client), BAD);
        }
    }

    private static void aboutEachWhich() {
        Edge edge = new Edge("promise 19",
                "which 0 its key, 1 its version, 2 its value, 3 the sum of 2^k over the keys k of its needs");
        for (int key = 0; key < 6; key++) {
            Run run = NEW.then(put(4, key, -key), put(4, 5 - key, LEAST + key));
            edge.answers(run, about(0, 0), key).answers(run, about(0, 1), 5).answers(run, about(0, 2), -key)
                    .answers(run, about(0, 3), 0);
            edge.answers(run, about(1, 0), 5 - key).answers(run, about(1, 1), 9).answers(run, about(1, 2), LEAST + key);
            edge.answers(run, about(1, 3), 1 << key);
        }
        edge.answers(FORTY_OF_ONE_KEY, about(39, 0), 0).answers(FORTY_OF_ONE_KEY, about(39, 1), 160);
        edge.answers(FORTY_OF_ONE_KEY, about(39, 2), 9).answers(FORTY_OF_ONE_KEY, about(39, 3), 1);
    }

    private static void aboutAnotherWhich() {
        Edge edge = new Edge("promise 19", "or for another which");
        Run run = NEW.then(put(5, 5, 77), put(5, 3, 78));
        for (int which : new int[] {-1, 4, 5, 6, -4, 256, 257, 65536, LEAST, MOST}) {
            edge.refuses(run, 0, about(0, which), about(1, which)).refuses(FORTY, 0, about(39, which));
        }
    }

    private static void aboutNoSuchWrite() {
        Edge edge = new Edge("promise 19", "0 when there is no such write");
        for (int which = 0; which < 4; which++) {
            edge.refuses(NEW, 0, about(0, which)).refuses(ONE_WRITE, 0, about(1, which))
                    .refuses(BUSTLE, 0, about(12, which));
            for (int write : NO_WRITE) {
                edge.refuses(FORTY, 0, about(write, which)).refuses(ONE_WRITE, 0, about(write, which));
            }
        }
    }

    private static void dependencyNone() {
        Edge edge = new Edge("promise 20", "NONE when there is none");
        for (int key = 0; key < 6; key++) {
            edge.answers(ONE_WRITE, dependency(0, key), NONE);
            edge.answers(ONE_WRITE.then(put(0, 5, 1)), dependency(1, key), key == 0 ? 0 : NONE);
            edge.answers(ONE_WRITE.then(put(3, 0, 1)), dependency(1, key), NONE);
        }
    }

    private static void dependencyFirstAndLast() {
        Edge edge = new Edge("promise 20", "The write of a key that a write depends on");
        edge.answers(FORTY_OF_ONE_KEY, dependency(39, 0), 38).answers(FORTY_OF_ONE_KEY, dependency(1, 0), 0);
        edge.answers(FORTY_OF_ONE_KEY, dependency(0, 0), NONE).answers(FORTY_OF_ONE_KEY, dependency(39, 1), NONE);
        edge.answers(NEW.then(put(2, 5, 1), put(2, 0, 1)), dependency(1, 5), 0);
        Run later = NEW.then(put(0, 0, 1), put(0, 1, 1), put(0, 0, 2), get(0, 0));
        edge.answers(later, dependency(1, 0), 0).answers(later, dependency(2, 1), 1);
    }

    private static void dependencyNoSuchWriteOrKey() {
        Edge edge = new Edge("promise 20", "BAD when there is no such write or key");
        for (int key = 0; key < 6; key++) {
            edge.refuses(NEW, BAD, dependency(0, key)).refuses(ONE_WRITE, BAD, dependency(1, key))
                    .refuses(BUSTLE, BAD, dependency(12, key));
            for (int write : NO_WRITE) {
                edge.refuses(FORTY, BAD, dependency(write, key)).refuses(ONE_WRITE, BAD, dependency(write, key));
            }
        }
        for (int key : NO_KEY) {
            edge.refuses(ONE_WRITE, BAD, dependency(0, key)).refuses(FORTY, BAD, dependency(0, key), dependency(39, key));
        }
    }
}
