import java.util.Random;

/** All promises: runs of random calls, of at most 512 each, whose answers are the model's. */
public final class ModelTest {
    private static final int RUNS = 4000;
    private static final int CALLS = 512;
    private static final int[] FAR = {-1, 64, Integer.MIN_VALUE, Integer.MAX_VALUE, -4, 40};

    private final Check is;
    private final Random random;
    private final CausalStore x = new CausalStore();
    private final Model model = new Model();
    // Each run has its own mix, so that full stores, long rows and second rounds all come about.
    private final int looks;
    private final int putShare;
    private final int sendShare;
    private final int hotKeys;
    private final boolean oneCenter;
    private int writes = 0;

    private ModelTest(int seed) {
        is = new Check("promises 1 to 20, run " + seed);
        random = new Random(seed);
        looks = random.nextInt(6);
        putShare = 1 + random.nextInt(8);
        sendShare = 2 * random.nextInt(6);
        hotKeys = 1 + random.nextInt(6);
        oneCenter = random.nextInt(3) == 0;
    }

    public static void main(String[] args) {
        for (int seed = 0; seed < RUNS && Check.wrongSoFar() == 0; seed++) {
            ModelTest run = new ModelTest(seed);
            for (int call = 0; call < CALLS; call++) {
                if (call % (1 + run.looks) == 0) {
                    run.act();
                } else {
                    run.look();
                }
            }
        }
        Check.finish();
    }

    private int upTo(int end) {
        int roll = random.nextInt(300);
        return roll == 0 ? FAR[random.nextInt(FAR.length)] : roll == 1 ? end : random.nextInt(Math.max(end, 1));
    }

    private int client() {
        return oneCenter ? 3 * upTo(2) : upTo(6);
    }

    private int key() {
        return upTo(hotKeys);
    }

    private int center() {
        return upTo(3);
    }

    private int partition() {
        return upTo(2);
    }

    private int write() {
        return upTo(writes);
    }

    private void act() {
        int roll = random.nextInt(12 + putShare + sendShare);
        if (roll < 2) {
            get();
        } else if (roll < 5) {
            begin();
        } else if (roll < 12) {
            read();
        } else if (roll < 12 + putShare) {
            put();
        } else if (roll % 2 == 0) {
            deliver();
        } else {
            serve();
        }
    }

    private void put() {
        int client = client();
        int key = key();
        int value = random.nextInt();
        int want = model.put(client, key, value);
        writes = Math.max(writes, want + 1);
        is.due("put(" + client + ", " + key + ", " + value + ")", want, x.put(client, key, value));
    }

    private void get() {
        int client = client();
        int key = key();
        is.due("get(" + client + ", " + key + ")", model.get(client, key), x.get(client, key));
    }

    private void begin() {
        int client = client();
        int set = upTo(1 << hotKeys);
        is.due("begin(" + client + ", " + set + ")", model.begin(client, set), x.begin(client, set));
    }

    private void read() {
        int client = client();
        is.due("read(" + client + ")", model.read(client), x.read(client));
    }

    private void deliver() {
        int from = center();
        int to = center();
        int k = upTo(model.flight(from, to));
        is.due("deliver(" + from + ", " + to + ", " + k + ")", model.deliver(from, to, k), x.deliver(from, to, k));
    }

    private void serve() {
        int center = center();
        int partition = partition();
        is.due("serve(" + center + ", " + partition + ")", model.serve(center, partition), x.serve(center, partition));
    }

    private void look() {
        switch (random.nextInt(4)) {
            case 0:
                lookAtClient(client(), key());
                break;
            case 1:
                lookAtCenter(center(), key(), write());
                break;
            case 2:
                lookAtWaiting(center(), center(), partition());
                break;
            default:
                lookAtWrite(write(), key());
        }
    }

    private void lookAtClient(int client, int key) {
        switch (random.nextInt(4)) {
            case 0:
                is.due("got(" + client + ", " + key + ")", model.got(client, key), x.got(client, key));
                break;
            case 1:
                is.due("rounds(" + client + ")", model.rounds(client), x.rounds(client));
                break;
            case 2:
                is.due("context(" + client + ", " + key + ")", model.context(client, key), x.context(client, key));
                break;
            default:
                is.due("nearest(" + client + ")", model.nearest(client), x.nearest(client));
        }
    }

    private void lookAtCenter(int center, int key, int write) {
        switch (random.nextInt(2)) {
            case 0:
                is.due("latest(" + center + ", " + key + ")", model.latest(center, key), x.latest(center, key));
                break;
            default:
                is.due("visible(" + center + ", " + write + ")", model.visible(center, write), x.visible(center, write));
        }
    }

    private void lookAtWaiting(int center, int to, int partition) {
        switch (random.nextInt(5)) {
            case 0:
                is.due("flight(" + center + ", " + to + ")", model.flight(center, to), x.flight(center, to));
                break;
            case 1:
                int k = upTo(model.flight(center, to));
                is.due("sent(" + center + ", " + to + ", " + k + ")", model.sent(center, to, k), x.sent(center, to, k));
                break;
            case 2:
                is.due("pending(" + center + ", " + partition + ")",
                        model.pending(center, partition), x.pending(center, partition));
                break;
            case 3:
                int place = upTo(model.pending(center, partition));
                is.due("lacks(" + center + ", " + partition + ", " + place + ")",
                        model.lacks(center, partition, place), x.lacks(center, partition, place));
                break;
            default:
                is.due("clock(" + center + ", " + partition + ")",
                        model.clock(center, partition), x.clock(center, partition));
        }
    }

    private void lookAtWrite(int write, int key) {
        switch (random.nextInt(2)) {
            case 0:
                int which = upTo(4);
                is.due("about(" + write + ", " + which + ")", model.about(write, which), x.about(write, which));
                break;
            default:
                is.due("dependency(" + write + ", " + key + ")", model.dependency(write, key), x.dependency(write, key));
        }
    }
}
