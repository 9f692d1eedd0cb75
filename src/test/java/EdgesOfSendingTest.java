/** The boundary cases that the promises 8 to 13 name: deliver, serve, flight, sent, pending, lacks. */
public final class EdgesOfSendingTest extends Edges {
    private static final Run THREE_SENT = NEW.then(put(0, 0, 1), put(0, 1, 2), put(0, 2, 3));
    private static final Run FORTY_PENDING = FORTY_OF_ONE_KEY.then(40, deliver(0, 1, 0));

    public static void main(String[] args) {
        deliverFirstAndLast();
        deliverBehindTheLast();
        deliverBeforeTheFirst();
        deliverTwice();
        deliverToTheSameDatacenter();
        deliverNoSuchDatacenter();
        deliverAllForty();
        serveNothingPending();
        serveNothingReady();
        serveAllForty();
        serveOneDatacenterAlone();
        serveNoSuchDatacenterOrPartition();
        flightNoneAndForty();
        flightOfTheSame();
        flightNotThere();
        sentFirstAndLast();
        sentNoSuchPlace();
        sentTheSameOrNotThere();
        pendingNoneAndForty();
        pendingNotWhereItWasMade();
        pendingNoSuchDatacenterOrPartition();
        lacksNoneAndAll();
        lacksNoSuchWrite();
        lacksNoSuchDatacenterOrPartition();
        Check.finish();
    }

    private static void deliverFirstAndLast() {
        Edge edge = new Edge("promise 8",
                "The write with k others before it in flight between two datacenters is delivered: true");
        edge.answers(THREE_SENT, deliver(0, 1, 0), YES).answers(THREE_SENT, deliver(0, 1, 2), YES);
        edge.answers(THREE_SENT.then(deliver(0, 1, 0)), sent(0, 1, 0), 1)
                .answers(THREE_SENT.then(deliver(0, 1, 0)), clock(1, 0), 1);
        edge.answers(THREE_SENT.then(deliver(0, 1, 2)), sent(0, 1, 1), 1)
                .answers(THREE_SENT.then(deliver(0, 1, 2)), clock(1, 0), 3);
        edge.answers(THREE_SENT.then(deliver(0, 1, 1)), sent(0, 1, 1), 2)
                .answers(THREE_SENT.then(deliver(0, 1, 1)), clock(1, 1), 2);
        edge.answers(THREE_SENT.then(deliver(0, 1, 0)), flight(0, 2), 3);
        for (int from = 0; from < 3; from++) {
            for (int to = 0; to < 3; to++) {
                Run run = NEW.then(put(from, 5, 1));
                edge.answers(run, deliver(from, to, 0), from == to ? NO : YES);
                edge.answers(run.then(deliver(from, to, 0)), pending(to, 1), from == to ? 0 : 1);
            }
        }
    }

    private static void deliverBehindTheLast() {
        Edge edge = new Edge("promise 8", "False when there is none");
        edge.refuses(THREE_SENT, NO, deliver(0, 1, 3), deliver(0, 1, 4), deliver(0, 2, 3), deliver(0, 1, 40),
                deliver(0, 1, MOST));
        edge.refuses(THREE_SENT, NO, deliver(1, 0, 0), deliver(1, 2, 0), deliver(2, 1, 0));
        edge.refuses(THREE_SENT.then(deliver(0, 1, 0)), NO, deliver(0, 1, 2))
                .answers(THREE_SENT.then(deliver(0, 1, 0)), deliver(0, 2, 2), YES);
    }

    private static void deliverBeforeTheFirst() {
        Edge edge = new Edge("promise 8", "False when there is none");
        edge.refuses(THREE_SENT, NO, deliver(0, 1, -1), deliver(0, 1, -3), deliver(0, 1, LEAST), deliver(1, 0, -1));
        edge.refuses(BUSTLE, NO, deliver(0, 1, -1), deliver(2, 0, -1));
    }

    private static void deliverTwice() {
        Edge edge = new Edge("promise 8", "False when there is none");
        Run delivered = ONE_WRITE.then(deliver(0, 1, 0));
        edge.refuses(delivered, NO, deliver(0, 1, 0)).answers(delivered, deliver(0, 2, 0), YES);
        edge.refuses(delivered.then(serve(1, 0)), NO, deliver(0, 1, 0));
        edge.refuses(ALL_ARRIVED, NO, deliver(0, 1, 0), deliver(1, 2, 0), deliver(2, 0, 0));
    }

    private static void deliverToTheSameDatacenter() {
        Edge edge = new Edge("promise 8", "False when there is none");
        for (int center = 0; center < 3; center++) {
            edge.refuses(BUSTLE, NO, deliver(center, center, 0))
                    .refuses(NEW.then(put(center, 0, 1)), NO, deliver(center, center, 0));
        }
    }

    private static void deliverNoSuchDatacenter() {
        Edge edge = new Edge("promise 8", "False when there is none");
        for (int center : NO_CENTER) {
            edge.refuses(BUSTLE, NO, deliver(center, 0, 0), deliver(0, center, 0), deliver(center, center, 0),
                    deliver(2, center, 0));
        }
    }

    private static void deliverAllForty() {
        Edge edge = new Edge("promise 8", "The write with k others before it");
        edge.answers(FORTY_OF_ONE_KEY, deliver(0, 1, 39), YES).refuses(FORTY_OF_ONE_KEY, NO, deliver(0, 1, 40));
        edge.answers(FORTY_OF_ONE_KEY.then(deliver(0, 1, 39)), clock(1, 0), 40);
        edge.answers(FORTY_OF_ONE_KEY.then(39, deliver(0, 1, 0)), deliver(0, 1, 0), YES);
        edge.refuses(FORTY_PENDING, NO, deliver(0, 1, 0));
        Run backwards = FORTY_OF_ONE_KEY;
        for (int k = 39; k >= 0; k--) {
            backwards = backwards.then(deliver(0, 2, k));
        }
        edge.answers(backwards, pending(2, 0), 40).answers(backwards, serve(2, 0), 1).answers(backwards, flight(0, 1), 40);
    }

    private static void serveNothingPending() {
        Edge edge = new Edge("promise 9", "Answers how many writes became visible");
        for (int center = 0; center < 3; center++) {
            edge.refuses(NEW, 0, serve(center, 0), serve(center, 1))
                    .refuses(THREE_SENT, 0, serve(center, 0), serve(center, 1));
            edge.refuses(ALL_ARRIVED, 0, serve(center, 0), serve(center, 1));
        }
    }

    private static void serveNothingReady() {
        Edge edge = new Edge("promise 9", "Answers how many writes became visible");
        Run run = THREE_SENT.then(deliver(0, 1, 2), deliver(0, 1, 1));
        edge.refuses(run, 0, serve(1, 0), serve(1, 1), serve(2, 0), serve(0, 0));
        edge.answers(run.then(deliver(0, 1, 0)), serve(1, 0), 1).answers(run.then(deliver(0, 1, 0)), serve(1, 1), 0);
    }

    private static void serveAllForty() {
        Edge edge = new Edge("promise 9", "Answers how many writes became visible");
        edge.answers(FORTY_PENDING, serve(1, 0), 40).answers(FORTY_PENDING.then(serve(1, 0)), visible(1, 39), YES);
        edge.answers(FORTY_PENDING.then(serve(1, 0)), latest(1, 0), 39)
                .answers(FORTY_PENDING.then(serve(1, 0)), serve(1, 0), 0);
        Run withoutTheFirst = FORTY_OF_ONE_KEY.then(39, deliver(0, 1, 1));
        edge.refuses(withoutTheFirst, 0, serve(1, 0));
        edge.answers(withoutTheFirst.then(deliver(0, 1, 0)), serve(1, 0), 1);
        edge.answers(withoutTheFirst.then(deliver(0, 1, 0), serve(1, 0)), serve(1, 0), 39);
    }

    private static void serveOneDatacenterAlone() {
        Edge edge = new Edge("promise 9", "A partition of a datacenter serves");
        Run run = ONE_WRITE.then(put(1, 1, 1), deliver(0, 1, 0), deliver(0, 2, 0), deliver(1, 2, 0), deliver(1, 0, 0),
                serve(2, 0));
        edge.answers(run, visible(2, 0), YES).answers(run, visible(1, 0), NO).answers(run, visible(2, 1), NO);
        edge.answers(run, visible(0, 1), NO).answers(run, pending(2, 1), 1).answers(run, pending(1, 0), 1)
                .answers(run, pending(2, 0), 0);
    }

    private static void serveNoSuchDatacenterOrPartition() {
        Edge edge = new Edge("promise 9", "BAD when there is no such datacenter or partition");
        for (int center : NO_CENTER) {
            edge.refuses(NEW, BAD, serve(center, 0)).refuses(BUSTLE, BAD, serve(center, 0), serve(center, 1));
        }
        for (int partition : NO_PARTITION) {
            edge.refuses(NEW, BAD, serve(0, partition)).refuses(BUSTLE, BAD, serve(1, partition), serve(2, partition));
        }
    }

    private static void flightNoneAndForty() {
        Edge edge = new Edge("promise 10", "How many writes are in flight from one datacenter to another");
        edge.answers(NEW, flight(0, 1), 0).answers(ONE_WRITE, flight(0, 1), 1).answers(ONE_WRITE, flight(1, 0), 0);
        edge.answers(FORTY_OF_ONE_KEY, flight(0, 1), 40).answers(FORTY_OF_ONE_KEY, flight(0, 2), 40);
        edge.answers(FORTY_OF_ONE_KEY.then(put(0, 0, 1)), flight(0, 1), 40);
        for (int times = 0; times < 42; times++) {
            edge.answers(FORTY_OF_ONE_KEY.then(times, deliver(0, 1, 0)), flight(0, 1), Math.max(40 - times, 0));
        }
        edge.answers(ONE_WRITE.then(deliver(0, 1, 0), serve(1, 0)), flight(1, 2), 0);
        edge.answers(ONE_WRITE.then(deliver(0, 1, 0), serve(1, 0)), flight(0, 2), 1);
    }

    private static void flightOfTheSame() {
        Edge edge = new Edge("promise 10", "0 when they are the same");
        for (int center = 0; center < 3; center++) {
            edge.answers(NEW, flight(center, center), 0).answers(FORTY, flight(center, center), 0);
            edge.answers(NEW.then(put(center, 0, 1)), flight(center, center), 0).refuses(BUSTLE, 0, flight(center, center));
        }
    }

    private static void flightNotThere() {
        Edge edge = new Edge("promise 10", "0 when they are the same or not there");
        for (int center : NO_CENTER) {
            edge.refuses(FORTY, 0, flight(center, 0), flight(center, 1), flight(0, center), flight(2, center),
                    flight(center, center));
        }
    }

    private static void sentFirstAndLast() {
        Edge edge = new Edge("promise 11", "The write in flight with k others before it");
        for (int k = 0; k < 40; k++) {
            edge.answers(FORTY_OF_ONE_KEY, sent(0, 1, k), k);
        }
        edge.answers(ONE_WRITE, sent(0, 1, 0), 0).answers(ONE_WRITE, sent(0, 2, 0), 0);
        edge.answers(THREE_SENT.then(deliver(0, 1, 1)), sent(0, 1, 1), 2)
                .answers(THREE_SENT.then(deliver(0, 1, 1)), sent(0, 2, 1), 1);
    }

    private static void sentNoSuchPlace() {
        Edge edge = new Edge("promise 11", "NONE when there is none");
        edge.refuses(THREE_SENT, NONE, sent(0, 1, 3), sent(0, 1, 40), sent(0, 1, -1), sent(0, 1, LEAST), sent(0, 1, MOST),
                sent(1, 0, 0));
        edge.refuses(FORTY_OF_ONE_KEY, NONE, sent(0, 1, 40), sent(0, 1, 41), sent(0, 1, -1), sent(1, 2, 0));
        edge.refuses(NEW, NONE, sent(0, 1, 0), sent(2, 1, 0)).refuses(FORTY_PENDING, NONE, sent(0, 1, 0), sent(0, 1, 39));
        edge.refuses(THREE_SENT.then(deliver(0, 1, 0)), NONE, sent(0, 1, 2));
    }

    private static void sentTheSameOrNotThere() {
        Edge edge = new Edge("promise 11", "NONE when there is none");
        for (int center = 0; center < 3; center++) {
            edge.refuses(FORTY, NONE, sent(center, center, 0));
        }
        for (int center : NO_CENTER) {
            edge.refuses(FORTY, NONE, sent(center, 1, 0), sent(0, center, 0), sent(2, center, 0), sent(center, center, 0));
        }
    }

    private static void pendingNoneAndForty() {
        Edge edge = new Edge("promise 12", "How many writes are pending in a partition of a datacenter");
        for (int times = 0; times < 42; times++) {
            edge.answers(FORTY_OF_ONE_KEY.then(times, deliver(0, 1, 0)), pending(1, 0), Math.min(times, 40));
        }
        edge.answers(FORTY_PENDING, pending(1, 1), 0).answers(FORTY_PENDING, pending(2, 0), 0);
        edge.answers(FORTY_PENDING.then(serve(1, 0)), pending(1, 0), 0)
                .answers(FORTY_PENDING.then(serve(1, 1)), pending(1, 0), 40);
    }

    private static void pendingNotWhereItWasMade() {
        Edge edge = new Edge("promise 12", "How many writes are pending");
        for (int center = 0; center < 3; center++) {
            for (int other = 0; other < 3; other++) {
                edge.answers(NEW.then(put(center, 0, 1)), pending(other, 0), 0)
                        .answers(NEW.then(put(center, 1, 1)), pending(other, 1), 0);
            }
        }
    }

    private static void pendingNoSuchDatacenterOrPartition() {
        Edge edge = new Edge("promise 12", "BAD when there is no such datacenter or partition");
        for (int center : NO_CENTER) {
            edge.refuses(BUSTLE, BAD, pending(center, 0), pending(center, 1)).answers(NEW, pending(center, 0), BAD);
        }
        for (int partition : NO_PARTITION) {
            edge.refuses(BUSTLE, BAD, pending(0, partition), pending(2, partition)).answers(NEW, pending(0, partition), BAD);
        }
    }

    private static void lacksNoneAndAll() {
        Edge edge = new Edge("promise 13",
                "How many of the needs of the pending write with k others before it are not visible at the datacenter");
        Run six = NEW.then(put(0, 0, 1), put(1, 1, 1), put(2, 2, 1), put(3, 3, 1), put(4, 4, 1), put(5, 5, 1))
                .then(2, deliver(1, 0, 0)).then(2, deliver(2, 0, 0)).then(serve(0, 0), serve(0, 1))
                .then(get(0, 1), get(0, 2), get(0, 3), get(0, 4), get(0, 5), put(0, 0, 2), deliver(0, 1, 2));
        edge.answers(six, lacks(1, 0, 0), 4).answers(six, about(6, 3), 63);
        Run fewer = six.then(deliver(0, 1, 1));
        edge.answers(fewer, lacks(1, 0, 0), 4).answers(fewer.then(serve(1, 1)), lacks(1, 0, 0), 3);
        Run none = fewer.then(deliver(2, 1, 0), deliver(2, 1, 0), deliver(0, 1, 0), serve(1, 1));
        edge.answers(none, lacks(1, 0, 0), 2).answers(none.then(serve(1, 0)), lacks(1, 0, 0), 0);
        edge.answers(none.then(serve(1, 0)), pending(1, 0), 1).answers(none.then(serve(1, 0)), visible(1, 6), NO);
        edge.answers(ONE_WRITE.then(deliver(0, 1, 0)), lacks(1, 0, 0), 0);
        edge.answers(FORTY_PENDING, lacks(1, 0, 0), 0).answers(FORTY_PENDING, lacks(1, 0, 1), 1)
                .answers(FORTY_PENDING, lacks(1, 0, 39), 1);
    }

    private static void lacksNoSuchWrite() {
        Edge edge = new Edge("promise 13", "NONE when there is no such write");
        Run run = THREE_SENT.then(deliver(0, 1, 2));
        edge.answers(run, lacks(1, 0, 0), 1);
        edge.refuses(run, NONE, lacks(1, 0, 1), lacks(1, 0, 40), lacks(1, 0, -1), lacks(1, 0, LEAST), lacks(1, 0, MOST));
        edge.refuses(run, NONE, lacks(1, 1, 0), lacks(2, 0, 0), lacks(0, 0, 0));
        edge.refuses(NEW, NONE, lacks(0, 0, 0), lacks(2, 1, 0))
                .refuses(FORTY_PENDING, NONE, lacks(1, 0, 40), lacks(1, 0, -1));
        edge.refuses(FORTY_PENDING.then(serve(1, 0)), NONE, lacks(1, 0, 0), lacks(1, 0, 39));
    }

    private static void lacksNoSuchDatacenterOrPartition() {
        Edge edge = new Edge("promise 13", "NONE when there is no such write, datacenter or partition");
        for (int center : NO_CENTER) {
            edge.refuses(BUSTLE, NONE, lacks(center, 0, 0), lacks(center, 1, 0)).answers(NEW, lacks(center, 0, 0), NONE);
        }
        for (int partition : NO_PARTITION) {
            edge.refuses(BUSTLE, NONE, lacks(0, partition, 0), lacks(2, partition, 0))
                    .answers(NEW, lacks(0, partition, 0), NONE);
        }
    }
}
