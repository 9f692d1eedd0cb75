/** Promises 4 to 7: transactions. */
public final class TransactionsTest {
    private static final int[] WRONG_SIX = {-1, 6, Integer.MIN_VALUE, Integer.MAX_VALUE};

    public static void main(String[] args) {
        begin();
        beginForgetsTheOneBefore();
        readOneRound();
        readSecondRoundOfSeveral();
        readAgainWhatWasNotThere();
        readAgainOnlyKeysOfTheSet();
        readWhatIsDueNotWhatIsLatest();
        readSeesOnlyAtTheEnd();
        readAtOwnDatacenter();
        readRefusals();
        got();
        rounds();
        Check.finish();
    }

    private static void begin() {
        Check is = new Check("promise 4");
        CausalStore x = new CausalStore();
        for (int wrong : WRONG_SIX) {
            is.due("no such client", false, x.begin(wrong, 1));
        }
        for (int wrong : new int[] {0, -1, 64, 65, Integer.MIN_VALUE, Integer.MAX_VALUE}) {
            is.due("no such set", false, x.begin(0, wrong));
        }
        is.due("nothing changed", 0, x.rounds(0));
        is.due("not open", CausalStore.NONE, x.read(0));
        is.due("least set", true, x.begin(0, 1));
        is.due("open", false, x.begin(0, 2));
        is.due("another client", true, x.begin(3, 63));
        is.due("the least set has one key", 0, x.read(0));
        is.due("again after the end", true, x.begin(0, 32));
        is.due("the greatest set has six keys", 5, x.read(3));
    }

    private static void beginForgetsTheOneBefore() {
        Check is = new Check("promise 4");
        CausalStore x = new CausalStore();
        x.put(0, 0, 1);
        x.put(0, 1, 1);
        x.begin(3, 3);
        x.read(3);
        x.put(0, 0, 2);
        x.put(0, 1, 2);
        x.read(3);
        is.due("a refused begin changes nothing", false, x.begin(3, 4));
        is.due("got stays", 0, x.got(3, 0));
        x.read(3);
        is.due("two rounds", 2, x.rounds(3));
        is.due("a refused begin changes nothing", false, x.begin(3, 64));
        is.due("got stays", 2, x.got(3, 0));
        is.due("begin", true, x.begin(3, 2));
        is.due("got nothing so far", CausalStore.NONE, x.got(3, 0));
        is.due("got nothing so far", CausalStore.NONE, x.got(3, 1));
        is.due("one round", 1, x.rounds(3));
        is.due("read", 0, x.read(3));
        is.due("got", 3, x.got(3, 1));
        is.due("not in the set", CausalStore.NONE, x.got(3, 0));
    }

    private static void readOneRound() {
        Check is = new Check("promise 5");
        CausalStore x = new CausalStore();
        x.put(0, 1, 1);
        x.put(0, 4, 1);
        x.begin(3, 2 + 4 + 16);
        is.due("key 1", 2, x.read(3));
        is.due("lowest first", 0, x.got(3, 1));
        is.due("others not yet", CausalStore.NONE, x.got(3, 4));
        is.due("key 2", 1, x.read(3));
        is.due("key 4", 0, x.read(3));
        is.due("got", 1, x.got(3, 4));
        is.due("ended", CausalStore.NONE, x.read(3));
        is.due("seen", 0, x.context(3, 1));
        is.due("seen", 1, x.context(3, 4));
    }

    private static void readSecondRoundOfSeveral() {
        Check is = new Check("promise 5");
        CausalStore x = new CausalStore();
        x.put(0, 0, 1);
        x.put(0, 2, 1);
        x.put(0, 3, 1);
        x.begin(3, 1 + 4 + 8 + 32);
        is.due("key 0", 3, x.read(3));
        is.due("key 2", 2, x.read(3));
        x.put(0, 2, 2);
        x.put(0, 0, 2);
        is.due("key 3", 1, x.read(3));
        is.due("put", 5, x.put(0, 5, 2));
        is.due("key 5, then 0 and 2 again", 2, x.read(3));
        is.due("key 3 needs no second reading", 2, x.got(3, 3));
        is.due("first round's", 0, x.got(3, 0));
        is.due("key 0 again", 1, x.read(3));
        is.due("due", 4, x.got(3, 0));
        is.due("first round's", 1, x.got(3, 2));
        is.due("open still", CausalStore.BUSY, x.get(3, 0));
        is.due("key 2 again", 0, x.read(3));
        is.due("due", 3, x.got(3, 2));
        is.due("closed", 4, x.get(3, 0));
        is.due("nearest", 32, x.nearest(3));
    }

    private static void readAgainWhatWasNotThere() {
        Check is = new Check("promise 5");
        CausalStore x = new CausalStore();
        x.begin(0, 3);
        is.due("key 0: none", 1, x.read(0));
        x.put(3, 0, 1);
        x.put(3, 1, 1);
        is.due("key 1, then 0 again", 1, x.read(0));
        is.due("none was there", CausalStore.NONE, x.got(0, 0));
        is.due("key 0", 0, x.read(0));
        is.due("got", 0, x.got(0, 0));
        is.due("got", 1, x.got(0, 1));
        is.due("rounds", 2, x.rounds(0));
    }

    private static void readAgainOnlyKeysOfTheSet() {
        Check is = new Check("promise 5");
        CausalStore x = new CausalStore();
        x.put(0, 0, 1);
        x.put(0, 1, 1);
        x.begin(3, 2);
        is.due("key 1 alone", 0, x.read(3));
        is.due("not in the set", CausalStore.NONE, x.got(3, 0));
        is.due("yet the client depends on it", 0, x.context(3, 0));
        is.due("rounds", 1, x.rounds(3));
    }

    private static void readWhatIsDueNotWhatIsLatest() {
        Check is = new Check("promise 5");
        CausalStore x = new CausalStore();
        x.put(0, 0, 1);
        x.begin(3, 3);
        x.read(3);
        x.put(0, 0, 2);
        x.put(0, 1, 2);
        is.due("key 1, then 0 again", 1, x.read(3));
        x.put(0, 0, 3);
        x.put(0, 1, 3);
        is.due("key 0", 0, x.read(3));
        is.due("the one that is due", 1, x.got(3, 0));
        is.due("not read again", 2, x.got(3, 1));
        is.due("the client sees no more than that", 1, x.context(3, 0));
    }

    private static void readSeesOnlyAtTheEnd() {
        Check is = new Check("promise 5");
        CausalStore x = new CausalStore();
        x.put(0, 0, 1);
        x.put(0, 1, 1);
        x.begin(3, 3);
        x.read(3);
        is.due("not seen yet", CausalStore.NONE, x.context(3, 0));
        is.due("nearest", 0, x.nearest(3));
        x.read(3);
        is.due("seen", 0, x.context(3, 0));
        is.due("seen", 1, x.context(3, 1));
        x.put(3, 0, 5);
        is.due("a put behind it depends on it", 1, x.dependency(2, 1));
        is.due("and has a greater time", 12, x.about(2, 1));
    }

    private static void readAtOwnDatacenter() {
        Check is = new Check("promise 5");
        CausalStore x = new CausalStore();
        x.put(0, 0, 1);
        x.put(1, 0, 2);
        x.begin(4, 1);
        is.due("read", 0, x.read(4));
        is.due("got", 1, x.got(4, 0));
        x.begin(5, 1);
        is.due("read", 0, x.read(5));
        is.due("got", CausalStore.NONE, x.got(5, 0));
        is.due("nothing seen", CausalStore.NONE, x.context(5, 0));
    }

    private static void readRefusals() {
        Check is = new Check("promise 5");
        CausalStore x = new CausalStore();
        for (int wrong : WRONG_SIX) {
            is.due("no such client", CausalStore.BAD, x.read(wrong));
        }
        is.due("none begun", CausalStore.NONE, x.read(5));
        x.begin(2, 1);
        is.due("another client's", CausalStore.NONE, x.read(5));
        is.due("its own", 0, x.read(2));
        is.due("ended", CausalStore.NONE, x.read(2));
    }

    private static void got() {
        Check is = new Check("promise 6");
        CausalStore x = new CausalStore();
        x.put(2, 3, 1);
        is.due("no transaction", CausalStore.NONE, x.got(5, 3));
        x.get(5, 3);
        is.due("a get is none", CausalStore.NONE, x.got(5, 3));
        x.begin(5, 8 + 16);
        is.due("not read so far", CausalStore.NONE, x.got(5, 3));
        x.read(5);
        is.due("while open", 0, x.got(5, 3));
        x.read(5);
        is.due("none there", CausalStore.NONE, x.got(5, 4));
        x.put(2, 3, 2);
        x.put(2, 4, 2);
        is.due("stays", 0, x.got(5, 3));
        is.due("stays", CausalStore.NONE, x.got(5, 4));
        is.due("not in the set", CausalStore.NONE, x.got(5, 0));
        is.due("another client's", CausalStore.NONE, x.got(2, 3));
        for (int wrong : WRONG_SIX) {
            is.due("no such client", CausalStore.BAD, x.got(wrong, 0));
            is.due("no such key", CausalStore.BAD, x.got(5, wrong));
        }
    }

    private static void rounds() {
        Check is = new Check("promise 7");
        CausalStore x = new CausalStore();
        is.due("none", 0, x.rounds(3));
        x.begin(3, 3);
        is.due("begun", 1, x.rounds(3));
        x.read(3);
        x.put(0, 0, 1);
        x.put(0, 1, 1);
        is.due("in the first", 1, x.rounds(3));
        x.read(3);
        is.due("to be read", 2, x.rounds(3));
        x.read(3);
        is.due("was read", 2, x.rounds(3));
        is.due("another client's", 0, x.rounds(0));
        x.begin(3, 3);
        is.due("begun again", 1, x.rounds(3));
        x.read(3);
        x.read(3);
        is.due("one was enough", 1, x.rounds(3));
        for (int wrong : WRONG_SIX) {
            is.due("no such client", CausalStore.BAD, x.rounds(wrong));
        }
    }
}
