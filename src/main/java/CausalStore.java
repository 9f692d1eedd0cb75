import java.util.Arrays;

/**
 * Three datacenters keep a copy of six keys each. A write is visible at once where it is made, and
 * elsewhere when all that it depends on is visible there.
 */
public final class CausalStore {
    public static final int BAD = -1;
    public static final int BUSY = -2;
    public static final int FULL = -3;
    public static final int NONE = -4;

    private static final int CENTERS = 3;
    private static final int PARTITIONS = 2;
    private static final int KEYS = 6;
    private static final int CLIENTS = 6;
    private static final int MOST_WRITES = 40;
    private static final int ALL_KEYS = 63;
    private static final int VERSIONS_A_TIME = 4;

    private final Write[] writes = new Write[MOST_WRITES];
    private final Center[] centers = new Center[CENTERS];
    private final Client[] clients = new Client[CLIENTS];
    private final Row[] flights = new Row[CENTERS * CENTERS];
    private int made;

    // All rows are made here, so that no call makes an object.
    public CausalStore() {
        for (int write = 0; write < MOST_WRITES; write++) {
            writes[write] = new Write();
        }
        for (int center = 0; center < CENTERS; center++) {
            centers[center] = new Center();
        }
        for (int client = 0; client < CLIENTS; client++) {
            clients[client] = new Client(client % CENTERS);
        }
        for (int flight = 0; flight < CENTERS * CENTERS; flight++) {
            flights[flight] = new Row();
        }
    }

    public int put(int client, int key, int value) {
        if (!isClient(client) || !isKey(key)) {
            return BAD;
        }
        Client putter = clients[client];
        if (putter.isOpen()) {
            return BUSY;
        }
        if (made >= MOST_WRITES) {
            return FULL;
        }
        int time = tick(putter, key % PARTITIONS);
        int write = made;
        writes[write].fill(key, value, time, putter.center);
        writes[write].dependOn(putter.depends, nearestKeys(putter.depends));
        made++;
        show(putter.center, write);
        send(putter.center, write);
        see(putter, write);
        return write;
    }

    public int get(int client, int key) {
        if (!isClient(client) || !isKey(key)) {
            return BAD;
        }
        Client getter = clients[client];
        if (getter.isOpen()) {
            return BUSY;
        }
        int write = centers[getter.center].newest[key];
        see(getter, write);
        return write;
    }

    public boolean begin(int client, int set) {
        if (!isClient(client) || set < 1 || set > ALL_KEYS || clients[client].isOpen()) {
            return false;
        }
        clients[client].open(set);
        return true;
    }

    public int read(int client) {
        if (!isClient(client)) {
            return BAD;
        }
        Client reader = clients[client];
        if (!reader.isOpen()) {
            return NONE;
        }
        readLowestKey(reader);
        if (reader.left == 0 && reader.round == 1) {
            prepareSecondRound(reader);
        }
        if (reader.left == 0) {
            seeFetched(reader);
        }
        return Integer.bitCount(reader.left);
    }

    public int got(int client, int key) {
        return isClient(client) && isKey(key) ? clients[client].fetched[key] : BAD;
    }

    public int rounds(int client) {
        return isClient(client) ? clients[client].round : BAD;
    }

    public boolean deliver(int from, int to, int k) {
        int write = sent(from, to, k);
        if (!isWrite(write)) {
            return false;
        }
        flights[from * CENTERS + to].removeAt(k);
        Center center = centers[to];
        int partition = writes[write].key % PARTITIONS;
        center.clocks[partition] = Math.max(center.clocks[partition], writes[write].time);
        center.waiting[partition].append(write);
        return true;
    }

    public int serve(int center, int partition) {
        if (!isCenter(center) || !isPartition(partition)) {
            return BAD;
        }
        Row waiting = centers[center].waiting[partition];
        int length = waiting.size;
        int shown = 0;
        for (int turn = 0; turn < length; turn++) {
            // Those that became visible have left the row, so the others have moved up.
            int place = turn - shown;
            int write = waiting.at(place);
            if (isWrite(write) && missingNeeds(center, write) == 0) {
                waiting.removeAt(place);
                show(center, write);
                shown++;
            }
        }
        return shown;
    }

    public int flight(int from, int to) {
        return isCenter(from) && isCenter(to) ? flights[from * CENTERS + to].size : 0;
    }

    public int sent(int from, int to, int k) {
        return isCenter(from) && isCenter(to) ? flights[from * CENTERS + to].at(k) : NONE;
    }

    public int pending(int center, int partition) {
        if (!isCenter(center) || !isPartition(partition)) {
            return BAD;
        }
        return centers[center].waiting[partition].size;
    }

    public int lacks(int center, int partition, int k) {
        if (!isCenter(center) || !isPartition(partition)) {
            return NONE;
        }
        int write = centers[center].waiting[partition].at(k);
        return isWrite(write) ? missingNeeds(center, write) : NONE;
    }

    public int latest(int center, int key) {
        return isCenter(center) && isKey(key) ? centers[center].newest[key] : BAD;
    }

    public boolean visible(int center, int write) {
        return isCenter(center) && isWrite(write) && centers[center].shows[write];
    }

    public int clock(int center, int partition) {
        return isCenter(center) && isPartition(partition) ? centers[center].clocks[partition] : BAD;
    }

    public int context(int client, int key) {
        return isClient(client) && isKey(key) ? clients[client].depends[key] : BAD;
    }

    public int nearest(int client) {
        return isClient(client) ? nearestKeys(clients[client].depends) : BAD;
    }

    public int about(int write, int which) {
        if (!isWrite(write)) {
            return 0;
        }
        switch (which) {
            case 0:
                return writes[write].key;
            case 1:
                return writes[write].version;
            case 2:
                return writes[write].value;
            case 3:
                return writes[write].needs;
            default:
                return 0;
        }
    }

    public int dependency(int write, int key) {
        return isWrite(write) && isKey(key) ? writes[write].depends[key] : BAD;
    }

    private static boolean isClient(int client) {
        return client >= 0 && client < CLIENTS;
    }

    private static boolean isKey(int key) {
        return key >= 0 && key < KEYS;
    }

    private static boolean isCenter(int center) {
        return center >= 0 && center < CENTERS;
    }

    private static boolean isPartition(int partition) {
        return partition >= 0 && partition < PARTITIONS;
    }

    private boolean isWrite(int write) {
        return write >= 0 && write < made;
    }

    private static boolean hasKey(int set, int key) {
        return (set & (1 << key)) != 0;
    }

    /** The clock of the partition at the client's datacenter goes on; answers its new time. */
    private int tick(Client putter, int partition) {
        int[] clocks = centers[putter.center].clocks;
        int time = clocks[partition];
        for (int key = 0; key < KEYS; key++) {
            int write = putter.depends[key];
            if (isWrite(write)) {
                time = Math.max(time, writes[write].time);
            }
        }
        clocks[partition] = time + 1;
        return time + 1;
    }

    private void show(int center, int write) {
        int key = writes[write].key;
        int[] newest = centers[center].newest;
        centers[center].shows[write] = true;
        newest[key] = greater(newest[key], write);
    }

    private void send(int from, int write) {
        for (int to = 0; to < CENTERS; to++) {
            if (to != from) {
                flights[from * CENTERS + to].append(write);
            }
        }
    }

    /** Seeing NONE changes nothing. */
    private void see(Client client, int write) {
        if (!isWrite(write)) {
            return;
        }
        Write seen = writes[write];
        for (int key = 0; key < KEYS; key++) {
            client.depends[key] = greater(client.depends[key], seen.depends[key]);
        }
        client.depends[seen.key] = greater(client.depends[seen.key], write);
    }

    /** The one with the greater version of two writes of a key, each of which may be NONE. */
    private int greater(int one, int other) {
        if (!isWrite(one)) {
            return other;
        }
        if (!isWrite(other)) {
            return one;
        }
        return writes[other].version > writes[one].version ? other : one;
    }

    private int nearestKeys(int[] depends) {
        int keys = 0;
        for (int key = 0; key < KEYS; key++) {
            if (isWrite(depends[key]) && !isCovered(depends, key)) {
                keys |= 1 << key;
            }
        }
        return keys;
    }

    /** Whether another of these writes depends on the one of the key. */
    private boolean isCovered(int[] depends, int key) {
        for (int other = 0; other < KEYS; other++) {
            int write = depends[other];
            if (other != key && isWrite(write) && writes[write].depends[key] == depends[key]) {
                return true;
            }
        }
        return false;
    }

    private int missingNeeds(int center, int write) {
        int missing = 0;
        for (int key = 0; key < KEYS; key++) {
            if (hasKey(writes[write].needs, key) && !visible(center, writes[write].depends[key])) {
                missing++;
            }
        }
        return missing;
    }

    private void readLowestKey(Client reader) {
        for (int key = 0; key < KEYS; key++) {
            if (hasKey(reader.left, key)) {
                int[] source = reader.round == 1 ? centers[reader.center].newest : reader.due;
                reader.fetched[key] = source[key];
                reader.left &= ~(1 << key);
                return;
            }
        }
    }

    private void prepareSecondRound(Client reader) {
        for (int key = 0; key < KEYS; key++) {
            // What is due is kept: the second round changes what it is reckoned from.
            reader.due[key] = dueWrite(reader.fetched, key);
            if (hasKey(reader.set, key) && reader.due[key] != reader.fetched[key]) {
                reader.left |= 1 << key;
            }
        }
        if (reader.left != 0) {
            reader.round = 2;
        }
    }

    private int dueWrite(int[] fetched, int key) {
        int due = fetched[key];
        for (int other = 0; other < KEYS; other++) {
            if (isWrite(fetched[other])) {
                due = greater(due, writes[fetched[other]].depends[key]);
            }
        }
        return due;
    }

    private void seeFetched(Client reader) {
        for (int key = 0; key < KEYS; key++) {
            see(reader, reader.fetched[key]);
        }
    }

    private static int[] noWrites() {
        int[] row = new int[KEYS];
        Arrays.fill(row, NONE);
        return row;
    }

    private static final class Write {
        private final int[] depends = noWrites();
        private int key;
        private int value;
        private int time;
        private int version;
        private int needs;

        private void fill(int ofKey, int newValue, int newTime, int center) {
            key = ofKey;
            value = newValue;
            time = newTime;
            version = VERSIONS_A_TIME * newTime + center;
        }

        private void dependOn(int[] writes, int nearestOnes) {
            System.arraycopy(writes, 0, depends, 0, KEYS);
            needs = nearestOnes;
        }
    }

    private static final class Center {
        private final boolean[] shows = new boolean[MOST_WRITES];
        private final int[] newest = noWrites();
        private final int[] clocks = new int[PARTITIONS];
        private final Row[] waiting = new Row[PARTITIONS];

        private Center() {
            for (int partition = 0; partition < PARTITIONS; partition++) {
                waiting[partition] = new Row();
            }
        }
    }

    /** A client with its latest transaction; round is 0 when there was none. */
    private static final class Client {
        private final int center;
        private final int[] depends = noWrites();
        private final int[] fetched = noWrites();
        private final int[] due = noWrites();
        private int set;
        private int left;
        private int round;

        private Client(int home) {
            center = home;
        }

        private boolean isOpen() {
            return left != 0;
        }

        private void open(int keys) {
            set = keys;
            left = keys;
            round = 1;
            Arrays.fill(fetched, NONE);
        }
    }

    /** Writes in the order in which they came. */
    private static final class Row {
        private final int[] writes = new int[MOST_WRITES];
        private int size;

        private int at(int place) {
            return place >= 0 && place < size ? writes[place] : NONE;
        }

        private void append(int write) {
            if (size < MOST_WRITES) {
                writes[size] = write;
                size++;
            }
        }

        private void removeAt(int place) {
            if (place >= 0 && place < size) {
                System.arraycopy(writes, place + 1, writes, place, size - place - 1);
                size--;
            }
        }
    }
}
