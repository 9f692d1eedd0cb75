/** The boundary cases that "What it is" and "Terms" name. */
public final class EdgesOfTermsTest extends Edges {
    public static void main(String[] args) {
        the512thCall();
        datacentersAndKeys();
        partitionsOfKeys();
        clocksAtFirst();
        homesOfClients();
        numbersOfWrites();
        valuesAreInts();
        versions();
        versionsOfOneKey();
        visibleForGood();
        latestOfThoseVisible();
        latestOfTheSameTime();
        clientsDependOnNoneAtFirst();
        seeingKeepsTheOneBefore();
        seeingTakesTheOneThatTheWriteDependsOn();
        seeingTakesTheWriteItself();
        nearestOfNoneAndOfSix();
        nearestIsNotCoveredByItself();
        nearestIsNotCoveredByAWriteOfThePast();
        puttingByTheClock();
        puttingByTheTimesOfDependencies();
        puttingDependsOnWhatWasBefore();
        puttingNeedsTheNearest();
        puttingShowsAndSends();
        flightInTheOrderOfSending();
        deliveredInAnyOrder();
        deliveryMovesTheClockOnlyOn();
        deliveredBehindTheOthers();
        servingGoesThroughOnce();
        servingKeepsTheOrderOfThoseThatStay();
        servingAsksForAllNeeds();
        Check.finish();
    }

    private static void the512thCall() {
        Edge edge = new Edge("what it is", "An object is used for at most 512 calls after it has been made");
        Call[] idle = {put(6, 0, 1), get(0, 0), begin(0, 0), read(0), got(0, 0), rounds(0), deliver(0, 1, 0), serve(0, 0),
            flight(0, 1), sent(0, 1, 0), pending(0, 0), lacks(0, 0, 0), latest(0, 0), visible(0, 0), clock(0, 0),
            context(0, 0), nearest(0), about(0, 0), dependency(0, 0)};
        for (Call call : idle) {
            edge.answers(NEW.then(511, call), put(0, 0, 1), 0);
        }
        edge.answers(NEW.then(40, put(0, 0, 1)).then(471, put(0, 0, 1)), put(0, 0, 1), FULL);
        edge.answers(NEW.then(40, put(0, 0, 5)).then(471, get(3, 0)), about(39, 2), 5);
        edge.answers(NEW.then(255, begin(0, 1), read(0)).then(begin(0, 1)), read(0), 0);
        edge.answers(NEW.then(255, begin(0, 1), read(0)), begin(0, 63), YES);
        edge.answers(NEW.then(73, begin(5, 63))
                .then(73, read(5), read(5), read(5), read(5), read(5), read(5)), read(5), NONE);
        edge.answers(NEW.then(39, put(0, 0, 1), deliver(0, 1, 0), serve(1, 0), get(1, 0), deliver(0, 2, 0), serve(2, 0))
                .then(put(0, 0, 1)).then(276, clock(2, 0)), deliver(0, 1, 0), YES);
    }

    private static void datacentersAndKeys() {
        Edge edge = new Edge("terms", "DATACENTERS 0, 1, 2 keep the KEYS 0 .. 5");
        for (int center = 0; center < 3; center++) {
            for (int key = 0; key < 6; key++) {
                int next = (center + 1) % 3;
                Run run = NEW.then(put(center, key, 7));
                edge.answers(run, latest(center, key), 0).answers(run, latest(center, (key + 1) % 6), NONE);
                edge.answers(run, latest(next, key), NONE).answers(run, get(center + 3, key), 0);
                Run there = run.then(deliver(center, next, 0), serve(next, key % 2));
                edge.answers(there, latest(next, key), 0).answers(there, latest((center + 2) % 3, key), NONE);
            }
        }
    }

    private static void partitionsOfKeys() {
        Edge edge = new Edge("terms", "partition 0 has the keys 0, 2, 4, partition 1 the keys 1, 3, 5");
        for (int key = 0; key < 6; key++) {
            int own = key % 2;
            Run run = NEW.then(put(1, key, 7));
            edge.answers(run, clock(1, own), 1).answers(run, clock(1, 1 - own), 0);
            Run there = run.then(deliver(1, 2, 0));
            edge.answers(there, clock(2, own), 1).answers(there, clock(2, 1 - own), 0);
            edge.answers(there, pending(2, own), 1).answers(there, pending(2, 1 - own), 0);
            edge.answers(there, lacks(2, own, 0), 0).answers(there, lacks(2, 1 - own, 0), NONE);
            edge.answers(there, serve(2, own), 1).answers(there, serve(2, 1 - own), 0);
            edge.answers(there.then(serve(2, 1 - own)), visible(2, 0), NO);
        }
    }

    private static void clocksAtFirst() {
        Edge edge = new Edge("terms", "each partition of each datacenter has a CLOCK, 0 at first");
        for (int center = 0; center < 3; center++) {
            for (int partition = 0; partition < 2; partition++) {
                edge.answers(NEW, clock(center, partition), 0);
                Run run = NEW.then(put(center, partition, 1));
                for (int other = 0; other < 6; other++) {
                    boolean same = other == 2 * center + partition;
                    edge.answers(run, clock(other / 2, other % 2), same ? 1 : 0);
                }
            }
        }
    }

    private static void homesOfClients() {
        Edge edge = new Edge("terms", "client c is at datacenter c % 3 for good");
        for (int client = 0; client < 6; client++) {
            Run moved = NEW.then(put((client + 1) % 3, 1, 5), put(client, 0, 1))
                    .then(begin(client, 3), read(client), read(client), get(client, 0), put(client, 0, 2));
            for (int center = 0; center < 3; center++) {
                boolean home = center == client % 3;
                edge.answers(NEW.then(put(client, 0, 1)), visible(center, 0), home ? YES : NO);
                edge.answers(moved, visible(center, 2), home ? YES : NO);
                edge.answers(NEW.then(put(center, 4, 1)), get(client, 4), home ? 0 : NONE);
                edge.answers(NEW.then(put(center, 4, 1), begin(client, 16), read(client)), got(client, 4), home ? 0 : NONE);
            }
        }
    }

    private static void numbersOfWrites() {
        Edge edge = new Edge("terms", "WRITES are numbered 0, 1, .., at most 40, in the order in which they are made");
        edge.answers(NEW, put(5, 5, 1), 0).answers(ONE_WRITE, put(5, 5, 1), 1);
        Run refused = NEW.then(put(6, 0, 1), put(0, 6, 1), begin(0, 1), put(0, 0, 1));
        edge.answers(refused, put(3, 0, 1), 0);
        Run run = NEW;
        for (int write = 0; write < 40; write++) {
            edge.answers(run, put(write % 6, write % 5, write), write);
            run = run.then(put(write % 6, write % 5, write));
            edge.answers(run, about(write, 2), write).answers(run, dependency(write + 1, 0), BAD);
        }
        edge.refuses(run, FULL, put(0, 0, 1), put(5, 5, 1));
        edge.answers(run, visible(39 % 3, 39), YES).answers(run, visible(0, 40), NO);
    }

    private static void valuesAreInts() {
        Edge edge = new Edge("terms", "a value (an int)");
        for (int value : new int[] {LEAST, LEAST + 1, -65536, BAD, BUSY, FULL, NONE, 0, 1, 65536, MOST - 1, MOST}) {
            edge.answers(NEW, put(0, 0, value), 0).answers(NEW.then(put(0, 0, value)), about(0, 2), value);
        }
    }

    private static void versions() {
        Edge edge = new Edge("terms", "a VERSION: 4 * time + the datacenter where it is made");
        for (int client = 0; client < 6; client++) {
            edge.answers(NEW.then(put(client, 3, 1)), about(0, 1), 4 + client % 3);
            edge.answers(NEW.then(40, put(client, 3, 1)), about(39, 1), 160 + client % 3);
        }
    }

    private static void versionsOfOneKey() {
        Edge edge = new Edge("terms", "Writes of one key never have the same version");
        Run run = NEW.then(put(0, 0, 1), put(1, 0, 1), put(2, 0, 1), put(3, 0, 1), put(4, 0, 1), put(5, 0, 1));
        for (int write = 0; write < 6; write++) {
            edge.answers(run, about(write, 1), write < 3 ? 4 + write : 8 + write - 3);
        }
        edge.answers(NEW.then(put(0, 0, 1), put(0, 1, 1), put(3, 1, 1)), about(2, 1), 12);
    }

    private static void visibleForGood() {
        Edge edge = new Edge("terms", "it never stops being so");
        Run run = NEW.then(put(1, 0, 1), put(4, 0, 2), put(0, 0, 3), deliver(1, 0, 0), deliver(1, 0, 0), serve(0, 0));
        edge.answers(run, latest(0, 0), 1);
        edge.answers(run, visible(0, 0), YES).answers(run, visible(0, 1), YES).answers(run, visible(0, 2), YES);
        edge.answers(run, visible(1, 0), YES).answers(run, visible(1, 1), YES);
        edge.answers(run.then(serve(0, 0), serve(0, 0)), visible(0, 0), YES);
        edge.answers(FORTY_OF_ONE_KEY, visible(0, 0), YES).answers(FORTY_OF_ONE_KEY, visible(0, 39), YES);
    }

    private static void latestOfThoseVisible() {
        Edge edge = new Edge("terms", "the one with the greatest version among those that are visible there");
        Run run = NEW.then(put(0, 0, 1), put(0, 0, 2), put(0, 0, 3), put(1, 0, 4));
        edge.answers(run, latest(0, 0), 2).answers(run, latest(1, 0), 3).answers(run, latest(2, 0), NONE);
        Run pending = run.then(deliver(0, 1, 2), serve(1, 0));
        edge.answers(pending, latest(1, 0), 3).answers(pending, pending(1, 0), 1);
        Run smaller = run.then(deliver(0, 1, 0), serve(1, 0));
        edge.answers(smaller, latest(1, 0), 3).answers(smaller, visible(1, 0), YES);
        Run greater = smaller.then(deliver(0, 1, 0), serve(1, 0));
        edge.answers(greater, latest(1, 0), 1).answers(greater, get(4, 0), 1);
    }

    private static void latestOfTheSameTime() {
        Edge edge = new Edge("terms", "The LATEST write of a key at a datacenter is the one with the greatest version");
        Run run = NEW.then(put(2, 0, 1), put(1, 0, 2), put(0, 0, 3));
        edge.answers(run.then(deliver(1, 0, 0), serve(0, 0)), latest(0, 0), 1);
        edge.answers(run.then(deliver(1, 0, 0), deliver(2, 0, 0), serve(0, 0)), latest(0, 0), 0);
        edge.answers(run.then(deliver(2, 0, 0), deliver(1, 0, 0), serve(0, 0)), latest(0, 0), 0);
        edge.answers(run.then(deliver(0, 2, 0), deliver(1, 2, 0), serve(2, 0)), latest(2, 0), 0);
        edge.answers(run.then(deliver(0, 1, 0), serve(1, 0)), latest(1, 0), 1);
    }

    private static void clientsDependOnNoneAtFirst() {
        Edge edge = new Edge("terms", "A client depends on none at first");
        for (int client = 0; client < 6; client++) {
            for (int key = 0; key < 6; key++) {
                edge.answers(NEW, context(client, key), NONE);
            }
        }
        edge.answers(ONE_WRITE, context(3, 0), NONE).answers(ONE_WRITE, nearest(3), 0);
        edge.answers(ONE_WRITE.then(put(3, 1, 1)), dependency(1, 0), NONE);
    }

    private static void seeingKeepsTheOneBefore() {
        Edge edge = new Edge("terms", "the greatest version among: the one that it depended on before");
        Run run = NEW.then(put(0, 0, 1), get(3, 0), put(3, 1, 2), put(0, 0, 3), get(0, 1));
        edge.answers(run, dependency(1, 0), 0).answers(run, context(0, 0), 2).answers(run, context(0, 1), 1);
        Run none = NEW.then(put(0, 2, 1), put(3, 1, 1), get(0, 1));
        edge.answers(none, dependency(1, 2), NONE).answers(none, context(0, 2), 0);
        edge.answers(none, get(0, 1), 1).changesNothing(none, get(0, 1));
    }

    private static void seeingTakesTheOneThatTheWriteDependsOn() {
        Edge edge = new Edge("terms", "the one that W depends on");
        Run run = NEW.then(put(0, 0, 1), put(0, 1, 2), get(3, 1));
        edge.answers(run, context(3, 0), 0).answers(run, context(3, 1), 1).answers(run, context(3, 2), NONE);
        Run newer = NEW.then(put(0, 0, 1), get(3, 0), put(0, 0, 2), put(0, 1, 3), get(3, 1));
        edge.answers(newer, context(3, 0), 1);
    }

    private static void seeingTakesTheWriteItself() {
        Edge edge = new Edge("terms", "for the key k, W itself");
        Run run = NEW.then(put(0, 0, 1), get(3, 0), put(0, 0, 2));
        edge.answers(run, context(0, 0), 1).answers(run, dependency(1, 0), 0).answers(run, context(3, 0), 0);
        edge.answers(run.then(get(3, 0)), context(3, 0), 1).answers(run.then(get(3, 0)), context(3, 1), NONE);
    }

    private static Run sixBeside() {
        Run run = NEW;
        for (int client = 0; client < 6; client++) {
            run = run.then(put(client, client, 1));
        }
        return run.then(deliver(1, 0, 0), deliver(1, 0, 0), deliver(2, 0, 0), deliver(2, 0, 0), serve(0, 0), serve(0, 1))
                .then(get(0, 1), get(0, 2), get(0, 3), get(0, 4), get(0, 5));
    }

    private static void nearestOfNoneAndOfSix() {
        Edge edge = new Edge("terms",
                "The NEAREST dependencies of a client are those writes that it depends on and on which no "
                + "other write that it depends on depends");
        edge.answers(NEW, nearest(0), 0).answers(ONE_WRITE, nearest(0), 1).answers(sixBeside(), nearest(0), 63);
        Run put = sixBeside().then(put(0, 4, 1));
        edge.answers(put, nearest(0), 16).answers(put, about(6, 3), 63).answers(put, dependency(6, 4), 4);
        edge.answers(put.then(deliver(0, 1, 2)), lacks(1, 0, 0), 4).answers(put.then(deliver(0, 2, 2)), lacks(2, 0, 0), 4);
    }

    private static void nearestIsNotCoveredByItself() {
        Edge edge = new Edge("terms", "on which no other write that it depends on depends");
        edge.answers(NEW.then(put(0, 5, 1), put(0, 5, 2)), nearest(0), 32);
        edge.answers(NEW.then(put(0, 0, 1), put(0, 5, 2)), nearest(0), 32);
        edge.answers(NEW.then(put(0, 5, 1), put(0, 0, 2)), nearest(0), 1);
        edge.answers(NEW.then(put(0, 0, 1), put(3, 5, 2), get(0, 5)), nearest(0), 33);
    }

    private static void nearestIsNotCoveredByAWriteOfThePast() {
        Edge edge = new Edge("terms", "no other write that it depends on depends");
        Run replaced = NEW.then(put(0, 0, 1), put(0, 1, 1), put(3, 1, 2), get(0, 1));
        edge.answers(replaced, context(0, 0), 0).answers(replaced, dependency(2, 0), NONE).answers(replaced, nearest(0), 3);
        Run newer = NEW.then(put(0, 0, 1), get(3, 0), put(3, 1, 1), put(0, 0, 2), get(0, 1));
        edge.answers(newer, dependency(1, 0), 0).answers(newer, context(0, 0), 2).answers(newer, nearest(0), 3);
    }

    private static void puttingByTheClock() {
        Edge edge = new Edge("terms",
                "becomes 1 more than the greatest of it and the times of the writes that the client depends on");
        Run ahead = NEW.then(put(0, 0, 1), put(0, 2, 1), put(0, 4, 1), put(3, 0, 1));
        edge.answers(ahead, about(3, 1), 16).answers(ahead, clock(0, 0), 4);
        Run same = NEW.then(put(0, 0, 1), put(0, 1, 1), put(3, 0, 1), put(3, 0, 2));
        edge.answers(same, about(3, 1), 12).answers(same, clock(0, 0), 3).answers(same, clock(0, 1), 2);
        Run delivered = NEW.then(put(0, 0, 1), put(0, 0, 2), deliver(0, 1, 1), put(1, 4, 1));
        edge.answers(delivered, about(2, 1), 13).answers(delivered, clock(1, 0), 3);
    }

    private static void puttingByTheTimesOfDependencies() {
        Edge edge = new Edge("terms", "the times of the writes that the client depends on; the new write has this time");
        Run behind = NEW.then(put(0, 0, 1), put(0, 2, 1), put(0, 4, 1), put(0, 1, 1));
        edge.answers(behind, about(3, 1), 16).answers(behind, clock(0, 1), 4).answers(behind, clock(0, 0), 3);
        for (int key = 0; key < 6; key++) {
            Run one = NEW.then(put(0, key, 1), put(0, key, 1), get(3, key), put(3, (key + 1) % 6, 1));
            edge.answers(one, about(2, 1), 12).answers(one, clock(0, (key + 1) % 2), 3);
        }
        edge.answers(NEW.then(put(0, 0, 1), put(0, 0, 1), put(3, 1, 1)), about(2, 1), 4);
    }

    private static void puttingDependsOnWhatWasBefore() {
        Edge edge = new Edge("terms", "It depends on what the client depends on (before)");
        Run run = NEW.then(put(0, 0, 1), put(0, 0, 2), put(0, 1, 3));
        edge.answers(run, dependency(0, 0), NONE).answers(run, dependency(1, 0), 0);
        edge.answers(run, dependency(2, 0), 1).answers(run, dependency(2, 1), NONE);
        Run later = run.then(put(3, 5, 1), get(0, 5), put(0, 0, 4));
        edge.answers(later, dependency(2, 5), NONE).answers(later, dependency(2, 0), 1).answers(later, dependency(4, 5), 3);
    }

    private static void puttingNeedsTheNearest() {
        Edge edge = new Edge("terms", "its NEEDS are the client's nearest dependencies");
        Run run = NEW.then(put(0, 0, 1), put(0, 1, 2), put(0, 5, 3), put(3, 3, 4), get(0, 3), put(0, 0, 5));
        edge.answers(run, about(0, 3), 0).answers(run, about(1, 3), 1).answers(run, about(2, 3), 2);
        edge.answers(run, about(3, 3), 0).answers(run, about(4, 3), 40);
        edge.answers(run.then(get(0, 5), put(0, 0, 6)), about(4, 3), 40);
    }

    private static void puttingShowsAndSends() {
        Edge edge = new Edge("terms",
                "It is visible at once at this datacenter; it is sent to both others; and the client sees it");
        for (int center = 0; center < 3; center++) {
            Run run = NEW.then(put(center + 3, 2, 1));
            for (int other = 0; other < 3; other++) {
                edge.answers(run, visible(other, 0), other == center ? YES : NO);
                edge.answers(run, flight(center, other), other == center ? 0 : 1);
                edge.answers(run, sent(center, other, 0), other == center ? NONE : 0);
                edge.answers(run, flight(other, center), 0);
            }
            edge.answers(run, context(center + 3, 2), 0).answers(run, context(center, 2), NONE);
            edge.answers(run, pending(center, 0), 0).answers(run, got(center + 3, 2), NONE);
        }
    }

    private static void flightInTheOrderOfSending() {
        Edge edge = new Edge("terms", "in FLIGHT between them, in the order of sending");
        Run run = NEW.then(put(0, 4, 1), put(1, 4, 2), put(3, 1, 3), put(2, 2, 4), put(0, 0, 5));
        edge.answers(run, flight(0, 2), 3);
        edge.answers(run, sent(0, 2, 0), 0).answers(run, sent(0, 2, 1), 2).answers(run, sent(0, 2, 2), 4);
        edge.answers(run, sent(0, 2, 3), NONE).answers(run, sent(1, 2, 0), 1).answers(run, sent(2, 0, 0), 3);
    }

    private static void deliveredInAnyOrder() {
        Edge edge = new Edge("terms", "it can be delivered in any order");
        Run run = NEW.then(put(0, 0, 1), put(0, 0, 2), put(0, 0, 3));
        for (int k = 0; k < 3; k++) {
            Run one = run.then(deliver(0, 1, k));
            edge.answers(run, deliver(0, 1, k), YES).answers(one, flight(0, 1), 2).answers(one, flight(0, 2), 3);
            edge.answers(one, sent(0, 1, 0), k == 0 ? 1 : 0).answers(one, sent(0, 1, 1), k == 2 ? 1 : 2);
            edge.answers(one, sent(0, 1, 2), NONE).answers(one, clock(1, 0), k + 1)
                    .answers(one, lacks(1, 0, 0), k == 0 ? 0 : 1);
        }
        edge.answers(run.then(deliver(0, 1, 2), deliver(0, 1, 1), deliver(0, 1, 0)), flight(0, 1), 0);
        edge.answers(run.then(deliver(0, 1, 2), deliver(0, 1, 1), deliver(0, 1, 0)), pending(1, 0), 3);
    }

    private static void deliveryMovesTheClockOnlyOn() {
        Edge edge = new Edge("terms",
                "the clock of its key's partition there becomes the time of the write, if that is greater");
        Run run = NEW.then(put(0, 0, 1), put(0, 0, 2), put(0, 0, 3), put(1, 2, 4), put(1, 2, 5));
        edge.answers(run, clock(1, 0), 2);
        edge.answers(run.then(deliver(0, 1, 0)), clock(1, 0), 2);
        edge.answers(run.then(deliver(0, 1, 1)), clock(1, 0), 2);
        edge.answers(run.then(deliver(0, 1, 2)), clock(1, 0), 3);
        edge.answers(run.then(deliver(0, 1, 2), deliver(0, 1, 0)), clock(1, 0), 3);
        edge.answers(run.then(deliver(0, 1, 2)), clock(1, 1), 0).answers(run.then(deliver(0, 1, 2)), clock(2, 0), 0);
        edge.answers(run.then(deliver(0, 1, 2)), clock(0, 0), 3);
        edge.answers(run.then(deliver(0, 1, 2), serve(1, 0)), clock(1, 0), 3);
    }

    private static void deliveredBehindTheOthers() {
        Edge edge = new Edge("terms", "the write is PENDING in this partition, behind the others that are");
        Run run = NEW.then(put(0, 1, 1), put(0, 0, 2), put(3, 2, 3), deliver(0, 2, 2), deliver(0, 2, 1));
        edge.answers(run, lacks(2, 0, 0), 0).answers(run, lacks(2, 0, 1), 1).answers(run, lacks(2, 0, 2), NONE);
        Run mixed = run.then(put(4, 4, 4), deliver(1, 2, 0));
        edge.answers(mixed, lacks(2, 0, 1), 1).answers(mixed, lacks(2, 0, 2), 0).answers(mixed, pending(2, 0), 3);
    }

    private static void servingGoesThroughOnce() {
        Edge edge = new Edge("terms", "its pending writes are gone through in their order, once");
        Run run = NEW.then(put(0, 0, 1), put(0, 2, 2), put(0, 4, 3));
        Run inOrder = run.then(3, deliver(0, 1, 0));
        edge.answers(inOrder, serve(1, 0), 3).answers(inOrder.then(serve(1, 0)), pending(1, 0), 0);
        Run backwards = run.then(deliver(0, 1, 2), deliver(0, 1, 1), deliver(0, 1, 0));
        edge.answers(backwards, serve(1, 0), 1).answers(backwards.then(serve(1, 0)), serve(1, 0), 1);
        edge.answers(backwards.then(2, serve(1, 0)), serve(1, 0), 1).answers(backwards.then(3, serve(1, 0)), serve(1, 0), 0);
        Run middle = run.then(deliver(0, 1, 2), deliver(0, 1, 0), deliver(0, 1, 0));
        edge.answers(middle, serve(1, 0), 2).answers(middle.then(serve(1, 0)), visible(1, 2), NO);
        edge.answers(middle.then(serve(1, 0)), lacks(1, 0, 0), 0);
    }

    private static void servingKeepsTheOrderOfThoseThatStay() {
        Edge edge = new Edge("terms", "visible there from then on, and not pending any more");
        Run run = NEW.then(put(0, 1, 1), put(0, 0, 2), put(3, 2, 3), put(0, 4, 4), put(3, 0, 5), put(0, 2, 6))
                .then(5, deliver(0, 2, 1));
        Run served = run.then(serve(2, 0));
        edge.answers(run, serve(2, 0), 2).answers(served, pending(2, 0), 3);
        edge.answers(served, visible(2, 2), YES).answers(served, visible(2, 4), YES).answers(served, visible(2, 1), NO);
        Run free = served.then(deliver(0, 2, 0), serve(2, 1));
        edge.answers(free, lacks(2, 0, 0), 0).answers(free, lacks(2, 0, 1), 1).answers(free, lacks(2, 0, 2), 1);
        edge.answers(free, serve(2, 0), 3).answers(free.then(serve(2, 0)), pending(2, 0), 0);
    }

    private static void servingAsksForAllNeeds() {
        Edge edge = new Edge("terms",
                "one all of whose needs are visible at the datacenter (those that became visible just before included)");
        Run run = NEW.then(put(0, 0, 1), put(3, 1, 2), get(0, 1), put(0, 2, 3));
        edge.answers(run.then(deliver(0, 1, 0), serve(1, 0), deliver(0, 1, 1)), serve(1, 0), 0);
        edge.answers(run.then(deliver(0, 1, 1), serve(1, 1), deliver(0, 1, 1)), serve(1, 0), 0);
        edge.answers(run.then(deliver(0, 1, 1), serve(1, 1), deliver(0, 1, 1), deliver(0, 1, 0)), serve(1, 0), 1);
        edge.answers(run.then(deliver(0, 1, 1), serve(1, 1), deliver(0, 1, 0), deliver(0, 1, 0)), serve(1, 0), 2);
        edge.answers(run.then(deliver(0, 1, 1), deliver(0, 1, 0), deliver(0, 1, 0)), serve(1, 0), 1);
    }
}
