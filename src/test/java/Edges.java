/** What the tests of boundary cases share: the calls as values, wrong arguments, and runs to start from. */
abstract class Edges {
    static final int BAD = CausalStore.BAD;
    static final int BUSY = CausalStore.BUSY;
    static final int FULL = CausalStore.FULL;
    static final int NONE = CausalStore.NONE;
    static final int YES = 1;
    static final int NO = 0;
    static final int LEAST = Integer.MIN_VALUE;
    static final int MOST = Integer.MAX_VALUE;

    static final int[] NO_CLIENT = {-1, 6, 7, 12, -6, 256, 65536, LEAST, MOST};
    static final int[] NO_KEY = {-1, 6, 7, 8, -6, 32, 256, 65536, LEAST, MOST};
    static final int[] NO_CENTER = {-1, 3, 4, 6, -3, 256, 65536, LEAST, MOST};
    static final int[] NO_PARTITION = {-1, 2, 3, -2, 256, 65536, LEAST, MOST};
    static final int[] NO_SET = {0, 64, 65, 127, 128, -1, -63, -64, 256 + 1, 65536 + 1, LEAST, LEAST + 1, MOST};

    static final Run NEW = new Run();
    static final Run ONE_WRITE = new Run(put(0, 0, 17));
    static final Run BUSTLE = bustle();
    static final Run FORTY = forty();
    static final Run FORTY_OF_ONE_KEY = new Run().then(40, put(0, 0, 9));
    static final Run ALL_ARRIVED = new Run(put(0, 0, 1), put(1, 1, 2), put(2, 2, 3), put(0, 3, 4)).then(2,
            deliver(0, 1, 0), deliver(0, 2, 0), deliver(1, 0, 0), deliver(1, 2, 0), deliver(2, 0, 0), deliver(2, 1, 0),
            serve(0, 0), serve(0, 1), serve(1, 0), serve(1, 1), serve(2, 0), serve(2, 1)).then(get(5, 3), get(4, 2));

    /**
     * A store in the midst of things: writes in flight and pending; client 0 at the beginning of a transaction, client 4
     * in the midst of a first round that asks for a second one, client 3 in the midst of a second round; the transaction
     * of client 2 has ended, clients 1 and 5 had none.
     */
    private static Run bustle() {
        return new Run(put(0, 0, 10), put(0, 1, 11), put(1, 0, 12), put(2, 5, 13), put(3, 2, 14))
                .then(deliver(0, 1, 1), deliver(0, 2, 0), serve(2, 0), get(5, 0), put(5, 2, 15), deliver(2, 0, 1))
                .then(begin(3, 15), read(3), read(3), put(0, 0, 16), put(0, 1, 17), put(0, 3, 18), read(3), read(3), read(3))
                .then(begin(0, 21), begin(2, 1), read(2), deliver(0, 2, 3), deliver(0, 1, 0))
                .then(begin(4, 11), read(4), read(4), put(1, 1, 19), put(1, 0, 20), put(1, 3, 21));
    }

    /** All forty writes, of all clients and keys; clients 0 and 1 have open transactions. */
    private static Run forty() {
        Run run = new Run();
        for (int write = 0; write < 40; write++) {
            run = run.then(put(write % 6, (write + write / 6) % 6, -write));
        }
        return run.then(deliver(0, 1, 0), deliver(0, 1, 3), deliver(2, 0, 1), serve(1, 0), serve(1, 1), get(2, 1))
                .then(begin(0, 3), read(0), begin(1, 63), begin(5, 4), read(5));
    }

    static Call put(int client, int key, int value) {
        return new Call("put" + list(client, key, value), x -> x.put(client, key, value));
    }

    static Call get(int client, int key) {
        return new Call("get" + list(client, key), x -> x.get(client, key));
    }

    static Call begin(int client, int set) {
        return new Call("begin" + list(client, set), x -> x.begin(client, set) ? YES : NO);
    }

    static Call read(int client) {
        return new Call("read" + list(client), x -> x.read(client));
    }

    static Call got(int client, int key) {
        return new Call("got" + list(client, key), x -> x.got(client, key));
    }

    static Call rounds(int client) {
        return new Call("rounds" + list(client), x -> x.rounds(client));
    }

    static Call deliver(int from, int to, int k) {
        return new Call("deliver" + list(from, to, k), x -> x.deliver(from, to, k) ? YES : NO);
    }

    static Call serve(int center, int partition) {
        return new Call("serve" + list(center, partition), x -> x.serve(center, partition));
    }

    static Call flight(int from, int to) {
        return new Call("flight" + list(from, to), x -> x.flight(from, to));
    }

    static Call sent(int from, int to, int k) {
        return new Call("sent" + list(from, to, k), x -> x.sent(from, to, k));
    }

    static Call pending(int center, int partition) {
        return new Call("pending" + list(center, partition), x -> x.pending(center, partition));
    }

    static Call lacks(int center, int partition, int k) {
        return new Call("lacks" + list(center, partition, k), x -> x.lacks(center, partition, k));
    }

    static Call latest(int center, int key) {
        return new Call("latest" + list(center, key), x -> x.latest(center, key));
    }

    static Call visible(int center, int write) {
        return new Call("visible" + list(center, write), x -> x.visible(center, write) ? YES : NO);
    }

    static Call clock(int center, int partition) {
        return new Call("clock" + list(center, partition), x -> x.clock(center, partition));
    }

    static Call context(int client, int key) {
        return new Call("context" + list(client, key), x -> x.context(client, key));
    }

    static Call nearest(int client) {
        return new Call("nearest" + list(client), x -> x.nearest(client));
    }

    static Call about(int write, int which) {
        return new Call("about" + list(write, which), x -> x.about(write, which));
    }

    static Call dependency(int write, int key) {
        return new Call("dependency" + list(write, key), x -> x.dependency(write, key));
    }

    private static String list(int... arguments) {
        String text = java.util.Arrays.toString(arguments);
        return "(" + text.substring(1, text.length() - 1) + ")";
    }
}
