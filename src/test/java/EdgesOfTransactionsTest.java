/** The boundary cases that the promises 4 to 7 name: begin, read, got, rounds. */
public final class EdgesOfTransactionsTest extends Edges {
    /** Client 3 has read no write of the keys 0 .. 4 when client 0 puts all six; key 5 is still to be read. */
    private static final Run SIX_PUT_BEHIND_FIVE_READ = NEW.then(begin(3, 63)).then(5, read(3))
            .then(put(0, 0, 1), put(0, 1, 1), put(0, 2, 1), put(0, 3, 1), put(0, 4, 1), put(0, 5, 1));

    public static void main(String[] args) {
        beginEachSet();
        beginNoSuchClient();
        beginWhileOpen();
        beginNoSuchSet();
        beginWhileOpenWithNoSuchSet();
        beginAgainAfterTheEnd();
        beginLeavesTheOtherClients();
        readCountsTheFirstRound();
        readCountsTheSecondRound();
        readEndsAtNought();
        readOneKeyInOneRound();
        readLowestFirst();
        readTheLatestWhenItIsItsTurn();
        readAgainTheLowestFirst();
        readAgainWhereNoneWas();
        readAgainNotWhatIsDueAlready();
        readAgainNoKeyOutsideTheSet();
        readAgainTheGreatestOfSeveral();
        readAgainWhatIsDueNotTheLatest();
        readSeesAtTheEndOnly();
        readSeesNothingWhereNoneWas();
        readNoSuchClient();
        readNotOpen();
        gotNoneReadSoFar();
        gotNoneWhenItWasRead();
        gotNotInTheSet();
        gotNoTransaction();
        gotTheOneReadLast();
        gotOfTheLatestTransaction();
        gotNoSuchClientOrKey();
        roundsNone();
        roundsOne();
        roundsTwo();
        roundsOfTheLatestTransaction();
        roundsNoSuchClient();
        Check.finish();
    }

    private static void beginEachSet() {
        Edge edge = new Edge("promise 4", "for the keys k with bit k (2^k) in set: true");
        for (int set = 1; set < 64; set++) {
            int keys = Integer.bitCount(set);
            edge.answers(NEW, begin(set % 6, set), YES);
            edge.answers(NEW.then(begin(set % 6, set)).then(keys - 1, read(set % 6)), read(set % 6), 0);
            edge.answers(NEW.then(begin(set % 6, set)).then(keys, read(set % 6)), read(set % 6), NONE);
        }
        Run all = NEW;
        for (int key = 0; key < 6; key++) {
            all = all.then(put(0, key, 1));
        }
        for (int set = 1; set < 64; set++) {
            Run run = all.then(begin(0, set)).then(Integer.bitCount(set), read(0));
            for (int key = 0; key < 6; key++) {
                edge.answers(run, got(0, key), (set >> key) % 2 == 1 ? key : NONE);
            }
        }
    }

    private static void beginNoSuchClient() {
        Edge edge = new Edge("promise 4", "False when there is no such client");
        for (int client : NO_CLIENT) {
            edge.refuses(NEW, NO, begin(client, 1)).refuses(BUSTLE, NO, begin(client, 63));
        }
        edge.answers(NEW, begin(0, 1), YES).answers(NEW, begin(5, 1), YES);
    }

    private static void beginWhileOpen() {
        Edge edge = new Edge("promise 4", "its transaction is open");
        for (int client = 0; client < 6; client++) {
            edge.refuses(ONE_WRITE.then(begin(client, 3)), NO, begin(client, 3), begin(client, 1), begin(client, 63));
            edge.refuses(ONE_WRITE.then(begin(client, 3), read(client)), NO, begin(client, 3), begin(client, 60));
        }
        edge.refuses(BUSTLE, NO, begin(0, 21), begin(0, 1), begin(3, 15), begin(3, 1), begin(4, 11), begin(4, 8),
                begin(4, 63));
        edge.refuses(SIX_PUT_BEHIND_FIVE_READ, NO, begin(3, 63), begin(3, 32), begin(3, 1));
        edge.refuses(SIX_PUT_BEHIND_FIVE_READ.then(read(3)), NO, begin(3, 63), begin(3, 1));
        edge.refuses(SIX_PUT_BEHIND_FIVE_READ.then(5, read(3)), NO, begin(3, 63), begin(3, 1));
    }

    private static void beginNoSuchSet() {
        Edge edge = new Edge("promise 4", "or set is not 1 .. 63");
        Run ended = SIX_PUT_BEHIND_FIVE_READ.then(6, read(3));
        for (int set : NO_SET) {
            edge.refuses(NEW, NO, begin(0, set), begin(5, set)).refuses(BUSTLE, NO, begin(1, set), begin(2, set));
            edge.refuses(ended, NO, begin(3, set));
        }
        edge.answers(NEW, begin(0, 1), YES).answers(NEW, begin(0, 63), YES);
    }

    private static void beginWhileOpenWithNoSuchSet() {
        Edge edge = new Edge("promise 4",
                "False when there is no such client, its transaction is open, or set is not 1 .. 63");
        for (int set : NO_SET) {
            edge.refuses(BUSTLE, NO, begin(0, set), begin(3, set), begin(4, set), begin(-1, set), begin(6, set));
            edge.refuses(SIX_PUT_BEHIND_FIVE_READ, NO, begin(3, set));
        }
    }

    private static void beginAgainAfterTheEnd() {
        Edge edge = new Edge("promise 4", "A client begins a transaction");
        Run one = ONE_WRITE.then(begin(0, 1), read(0));
        edge.answers(one, begin(0, 1), YES).answers(one.then(begin(0, 6)), read(0), 1);
        Run two = SIX_PUT_BEHIND_FIVE_READ.then(6, read(3));
        edge.answers(two, begin(3, 1), YES).answers(two.then(begin(3, 1)), read(3), 0);
        edge.answers(two.then(begin(3, 7)), read(3), 2);
    }

    private static void beginLeavesTheOtherClients() {
        Edge edge = new Edge("promise 4", "A client begins a transaction");
        Run run = ONE_WRITE.then(begin(0, 1));
        for (int client = 1; client < 6; client++) {
            edge.answers(run, begin(client, 1), YES).answers(run, rounds(client), 0).answers(run, read(client), NONE);
            edge.answers(run.then(begin(client, 6), read(client)), read(0), 0);
        }
        edge.answers(run, clock(0, 0), 1).answers(run, context(0, 0), 0).answers(run, flight(0, 1), 1);
    }

    private static void readCountsTheFirstRound() {
        Edge edge = new Edge("promise 5", "Answers how many keys are to be read then, in this round");
        for (int key = 0; key < 6; key++) {
            edge.answers(NEW.then(begin(2, 63)).then(key, read(2)), read(2), 5 - key);
            edge.answers(BUSTLE.then(begin(5, 63)).then(key, read(5)), read(5), 5 - key);
        }
        edge.answers(NEW.then(begin(2, 33)), read(2), 1).answers(NEW.then(begin(2, 33), read(2)), read(2), 0);
    }

    private static void readCountsTheSecondRound() {
        Edge edge = new Edge("promise 5", "and, if this was the last key of the first one, in the second");
        for (int key = 0; key < 6; key++) {
            edge.answers(SIX_PUT_BEHIND_FIVE_READ.then(key, read(3)), read(3), 5 - key);
        }
        Run one = NEW.then(put(0, 0, 1), put(0, 1, 1), begin(3, 7), read(3), put(0, 0, 2), put(0, 2, 2), read(3));
        edge.answers(one, read(3), 1).answers(one.then(read(3)), read(3), 0).answers(one.then(2, read(3)), read(3), NONE);
    }

    private static void readEndsAtNought() {
        Edge edge = new Edge("promise 5", "0 when the transaction has ended by that");
        Run first = NEW.then(begin(1, 24), read(1));
        edge.answers(first, put(1, 0, 1), BUSY).answers(first, read(1), 0).answers(first.then(read(1)), put(1, 0, 1), 0);
        Run second = SIX_PUT_BEHIND_FIVE_READ.then(5, read(3));
        edge.answers(second, put(3, 0, 1), BUSY).answers(second, read(3), 0).answers(second.then(read(3)), put(3, 0, 1), 6);
    }

    private static void readOneKeyInOneRound() {
        Edge edge = new Edge("promise 5", "0 when the transaction has ended by that");
        for (int key = 0; key < 6; key++) {
            Run run = NEW.then(put(0, key, 1), put(0, (key + 1) % 6, 1), put(0, key, 1), begin(3, 1 << key));
            edge.answers(run, read(3), 0).answers(run.then(read(3)), got(3, key), 2)
                    .answers(run.then(read(3)), rounds(3), 1);
        }
    }

    private static void readLowestFirst() {
        Edge edge = new Edge("terms", "FIRST ROUND: of each key of the set, the lowest first");
        Run run = NEW.then(put(0, 5, 1), put(0, 3, 1), put(0, 0, 1), begin(3, 41), read(3));
        edge.answers(run, got(3, 0), 2).answers(run, got(3, 3), NONE).answers(run, got(3, 5), NONE);
        edge.answers(run.then(read(3)), got(3, 3), 1).answers(run.then(read(3)), got(3, 5), NONE);
        edge.answers(run.then(2, read(3)), got(3, 5), 0);
    }

    private static void readTheLatestWhenItIsItsTurn() {
        Edge edge = new Edge("terms",
                "the write that is the latest at the client's datacenter when it is its turn, or none");
        Run run = NEW.then(put(0, 0, 1), begin(3, 3), put(0, 0, 2), read(3), put(0, 0, 3));
        edge.answers(run, got(3, 0), 1).answers(run.then(read(3)), got(3, 1), NONE).answers(run.then(read(3)), got(3, 0), 1);
        Run elsewhere = NEW.then(put(1, 0, 1), begin(3, 1), deliver(1, 0, 0));
        edge.answers(elsewhere.then(read(3)), got(3, 0), NONE).answers(elsewhere.then(serve(0, 0), read(3)), got(3, 0), 0);
    }

    private static void readAgainTheLowestFirst() {
        Edge edge = new Edge("terms", "is read again, the lowest first: its due write");
        Run run = SIX_PUT_BEHIND_FIVE_READ.then(read(3));
        for (int read = 0; read <= 5; read++) {
            for (int key = 0; key < 5; key++) {
                edge.answers(run.then(read, read(3)), got(3, key), key < read ? key : NONE);
            }
            edge.answers(run.then(read, read(3)), got(3, 5), 5);
        }
    }

    private static void readAgainWhereNoneWas() {
        Edge edge = new Edge("terms", "each key of the set whose due write is not the one that was read");
        Run run = NEW.then(begin(0, 3), read(0), put(3, 0, 1), put(3, 1, 1));
        edge.answers(run, read(0), 1).answers(run.then(read(0)), got(0, 0), NONE);
        edge.answers(run.then(2, read(0)), got(0, 0), 0).answers(run.then(2, read(0)), got(0, 1), 1);
        Run unneeded = NEW.then(begin(0, 3), read(0), put(3, 0, 1), put(2, 1, 1), deliver(2, 0, 0), serve(0, 1));
        edge.answers(unneeded, read(0), 0).answers(unneeded.then(read(0)), got(0, 0), NONE);
    }

    private static void readAgainNotWhatIsDueAlready() {
        Edge edge = new Edge("terms", "whose due write is not the one that was read");
        Run run = NEW.then(put(0, 0, 1), put(0, 1, 2), begin(3, 3), read(3));
        edge.answers(run, read(3), 0).answers(run.then(read(3)), rounds(3), 1);
        Run newer = NEW.then(put(0, 0, 1), put(0, 1, 2), put(3, 0, 3), put(3, 0, 4), begin(3, 3), read(3));
        edge.answers(newer, got(3, 0), 3).answers(newer, read(3), 0).answers(newer.then(read(3)), got(3, 0), 3);
        Run unseen = NEW.then(put(0, 0, 1), begin(3, 3), read(3), put(0, 0, 2), read(3));
        edge.answers(unseen, read(3), NONE).answers(unseen, got(3, 0), 0).answers(unseen, rounds(3), 1);
    }

    private static void readAgainNoKeyOutsideTheSet() {
        Edge edge = new Edge("terms", "the write DUE of a key of the set");
        Run run = NEW.then(put(0, 0, 1), put(0, 4, 1), put(0, 2, 1), begin(3, 4));
        edge.answers(run, read(3), 0).answers(run.then(read(3)), got(3, 0), NONE)
                .answers(run.then(read(3)), got(3, 4), NONE);
        edge.answers(run.then(read(3)), rounds(3), 1).answers(run.then(read(3)), context(3, 0), 0);
    }

    private static void readAgainTheGreatestOfSeveral() {
        Edge edge = new Edge("terms",
                "the one with the greatest version among the one that was read for it and those of this key on "
                + "which the writes that were read depend");
        Run begun = NEW.then(put(0, 0, 1), begin(3, 7), read(3));
        Run lastIsGreatest = begun.then(put(0, 0, 2), put(0, 1, 2), read(3), put(0, 0, 3), put(0, 2, 3));
        edge.answers(lastIsGreatest, read(3), 1).answers(lastIsGreatest.then(2, read(3)), got(3, 0), 3);
        Run firstIsGreatest = begun.then(put(0, 0, 2), put(0, 2, 2), get(0, 2), put(0, 0, 3), put(0, 1, 3));
        edge.answers(firstIsGreatest.then(read(3)), read(3), 1).answers(firstIsGreatest.then(3, read(3)), got(3, 0), 3);
        Run sameTime = NEW.then(begin(5, 7), read(5), put(1, 0, 1), put(1, 1, 1), put(2, 0, 2), put(2, 2, 2))
                .then(deliver(1, 2, 0), deliver(1, 2, 0), serve(2, 0), serve(2, 1), read(5));
        edge.answers(sameTime, read(5), 1).answers(sameTime.then(2, read(5)), got(5, 0), 2);
    }

    private static void readAgainWhatIsDueNotTheLatest() {
        Edge edge = new Edge("terms", "its due write (which is visible there)");
        Run run = SIX_PUT_BEHIND_FIVE_READ.then(read(3), put(0, 0, 2), put(0, 4, 2), put(0, 5, 2));
        edge.answers(run.then(read(3)), got(3, 0), 0).answers(run.then(5, read(3)), got(3, 4), 4);
        edge.answers(run.then(5, read(3)), got(3, 5), 5).answers(run.then(5, read(3)), context(3, 0), 0);
        edge.answers(run.then(4, read(3)), read(3), 0).answers(run.then(5, read(3)), visible(0, 0), YES);
    }

    private static void readSeesAtTheEndOnly() {
        Edge edge = new Edge("terms",
                "At the end, when there is nothing more to be read, the client sees the writes that it has got");
        Run second = SIX_PUT_BEHIND_FIVE_READ.then(5, read(3));
        for (int key = 0; key < 6; key++) {
            edge.answers(second, context(3, key), NONE).answers(second.then(read(3)), context(3, key), key);
        }
        edge.answers(second, nearest(3), 0).answers(second.then(read(3)), nearest(3), 32);
        Run first = NEW.then(put(0, 0, 1), put(1, 0, 1), begin(3, 3), read(3));
        edge.answers(first, context(3, 0), NONE).answers(first.then(read(3)), context(3, 0), 0);
        edge.answers(first.then(read(3), put(3, 1, 1)), dependency(2, 0), 0);
    }

    private static void readSeesNothingWhereNoneWas() {
        Edge edge = new Edge("terms", "the client sees the writes that it has got");
        Run run = NEW.then(put(0, 2, 1), begin(0, 63)).then(6, read(0));
        for (int key = 0; key < 6; key++) {
            edge.answers(run, context(0, key), key == 2 ? 0 : NONE);
        }
        edge.answers(run, nearest(0), 4).answers(NEW.then(begin(5, 63)).then(6, read(5)), nearest(5), 0);
    }

    private static void readNoSuchClient() {
        Edge edge = new Edge("promise 5", "BAD when there is no such client");
        for (int client : NO_CLIENT) {
            edge.refuses(NEW, BAD, read(client)).refuses(BUSTLE, BAD, read(client));
        }
    }

    private static void readNotOpen() {
        Edge edge = new Edge("promise 5", "NONE when its transaction is not open");
        for (int client = 0; client < 6; client++) {
            edge.refuses(NEW, NONE, read(client)).refuses(ONE_WRITE, NONE, read(client));
            edge.refuses(ONE_WRITE.then(begin(client, 1), read(client)), NONE, read(client));
            edge.refuses(ONE_WRITE.then(begin((client + 3) % 6, 1)), NONE, read(client));
            edge.refuses(ONE_WRITE.then(begin(client, 64), begin(client, 0)), NONE, read(client));
        }
        edge.refuses(SIX_PUT_BEHIND_FIVE_READ.then(6, read(3)), NONE, read(3));
        edge.refuses(BUSTLE, NONE, read(1), read(2), read(5));
    }

    private static void gotNoneReadSoFar() {
        Edge edge = new Edge("promise 6", "NONE when none was read so far");
        Run run = NEW.then(put(2, 3, 1), put(2, 4, 1), begin(5, 24));
        edge.answers(run, got(5, 3), NONE).answers(run, got(5, 4), NONE);
        edge.answers(run.then(read(5)), got(5, 3), 0).answers(run.then(read(5)), got(5, 4), NONE);
        edge.answers(run.then(2, read(5)), got(5, 4), 1);
    }

    private static void gotNoneWhenItWasRead() {
        Edge edge = new Edge("promise 6", "there was none when it was read");
        Run run = NEW.then(begin(5, 3), read(5), put(2, 0, 1));
        edge.answers(run, got(5, 0), NONE).answers(run.then(read(5)), got(5, 0), NONE);
        edge.answers(run.then(read(5), get(5, 0)), got(5, 0), NONE);
    }

    private static void gotNotInTheSet() {
        Edge edge = new Edge("promise 6", "the key is not in its set");
        Run run = NEW.then(put(2, 0, 1), put(2, 1, 1), begin(5, 2), read(5));
        edge.answers(run, got(5, 0), NONE).answers(run, context(5, 0), 0).answers(run, got(5, 1), 1);
        for (int key = 2; key < 6; key++) {
            edge.answers(run, got(5, key), NONE);
        }
    }

    private static void gotNoTransaction() {
        Edge edge = new Edge("promise 6", "or there was no transaction");
        Run run = NEW.then(put(2, 3, 1), get(5, 3), begin(5, 0), begin(5, 64), begin(4, 8), read(4));
        for (int client : new int[] {0, 1, 2, 3, 5}) {
            for (int key = 0; key < 6; key++) {
                edge.answers(run, got(client, key), NONE);
            }
        }
    }

    private static void gotTheOneReadLast() {
        Edge edge = new Edge("promise 6", "the one read last for it");
        Run run = NEW.then(put(0, 0, 1), begin(3, 3), read(3), put(0, 0, 2), put(0, 1, 2), read(3));
        edge.answers(run, got(3, 0), 0).answers(run.then(read(3)), got(3, 0), 1).answers(run.then(read(3)), got(3, 1), 2);
        edge.answers(run.then(read(3), put(3, 0, 9)), got(3, 0), 1);
    }

    private static void gotOfTheLatestTransaction() {
        Edge edge = new Edge("promise 6", "the latest transaction of a client (open or not)");
        Run ended = NEW.then(put(0, 0, 1), put(0, 1, 1), begin(3, 3), read(3), read(3));
        edge.answers(ended, got(3, 0), 0).answers(ended, got(3, 1), 1);
        Run refused = ended.then(begin(3, 0), begin(3, 64), begin(6, 1));
        edge.answers(refused, got(3, 0), 0).answers(refused, got(3, 1), 1);
        Run begun = ended.then(begin(3, 2));
        edge.answers(begun, got(3, 0), NONE).answers(begun, got(3, 1), NONE);
        edge.answers(begun.then(read(3)), got(3, 1), 1).answers(begun.then(read(3)), got(3, 0), NONE);
        edge.answers(ended.then(begin(0, 1)), got(3, 0), 0);
    }

    private static void gotNoSuchClientOrKey() {
        Edge edge = new Edge("promise 6", "BAD when there is no such client or key");
        for (int client : NO_CLIENT) {
            edge.refuses(BUSTLE, BAD, got(client, 0)).answers(NEW, got(client, 0), BAD);
        }
        for (int key : NO_KEY) {
            edge.refuses(BUSTLE, BAD, got(3, key)).answers(NEW, got(0, key), BAD);
        }
    }

    private static void roundsNone() {
        Edge edge = new Edge("promise 7", "0 when there was none");
        for (int client = 0; client < 6; client++) {
            edge.answers(NEW, rounds(client), 0);
            Run none = NEW.then(put(client, 0, 1), get(client, 0), begin(client, 0), begin(client, 64), read(client));
            edge.answers(none, rounds(client), 0);
            edge.answers(NEW.then(begin(client, 1), read(client)), rounds((client + 3) % 6), 0);
        }
    }

    private static void roundsOne() {
        Edge edge = new Edge("promise 7", "else 1");
        Run run = NEW.then(put(0, 0, 1), put(0, 1, 1), begin(3, 7));
        for (int read = 0; read < 4; read++) {
            edge.answers(run.then(read, read(3)), rounds(3), 1);
        }
        edge.answers(SIX_PUT_BEHIND_FIVE_READ, rounds(3), 1);
        edge.answers(NEW.then(begin(3, 1), read(3), put(3, 0, 1)), rounds(3), 1);
    }

    private static void roundsTwo() {
        Edge edge = new Edge("promise 7", "2 when something was, or is to be, read in the second round");
        for (int read = 1; read < 8; read++) {
            edge.answers(SIX_PUT_BEHIND_FIVE_READ.then(read, read(3)), rounds(3), 2);
        }
        edge.answers(SIX_PUT_BEHIND_FIVE_READ.then(6, read(3)).then(put(3, 0, 1), get(3, 1)), rounds(3), 2);
    }

    private static void roundsOfTheLatestTransaction() {
        Edge edge = new Edge("promise 7", "of the latest transaction of a client");
        Run two = SIX_PUT_BEHIND_FIVE_READ.then(6, read(3));
        edge.answers(two.then(begin(3, 0), begin(3, 64)), rounds(3), 2).answers(two.then(begin(3, 63)), rounds(3), 1);
        edge.answers(two.then(begin(3, 63)).then(6, read(3)), rounds(3), 1).answers(two.then(begin(0, 1)), rounds(3), 2);
    }

    private static void roundsNoSuchClient() {
        Edge edge = new Edge("promise 7", "BAD when there is no such client");
        for (int client : NO_CLIENT) {
            edge.refuses(BUSTLE, BAD, rounds(client)).answers(NEW, rounds(client), BAD);
        }
    }
}
