/** Promises 1, 2, 3, 14 to 20: a new object, putting, getting, and what a client and a write depend on. */
public final class WritesTest {
    private static final int[] WRONG_SIX = {-1, 6, Integer.MIN_VALUE, Integer.MAX_VALUE};
    private static final int[] WRONG_THREE = {-1, 3, Integer.MIN_VALUE, Integer.MAX_VALUE};
    private static final int[] WRONG_TWO = {-1, 2, Integer.MIN_VALUE, Integer.MAX_VALUE};

    public static void main(String[] args) {
        newObject();
        objectsAreApart();
        putNumbersAndTimes();
        putTakesTheTimeOfWhatTheClientDependsOn();
        putRefusals();
        putFull();
        getSeesTheLatest();
        getRefusals();
        latestIsTheGreatestVersion();
        visibleWhereMade();
        clocks();
        contextKeepsTheGreatest();
        nearestLeavesOutWhatIsCovered();
        nearestOfOneWhoseCoverWasReplaced();
        about();
        dependency();
        Check.finish();
    }

    private static void newObject() {
        Check is = new Check("promise 1");
        CausalStore x = new CausalStore();
        for (int center = 0; center < 3; center++) {
            for (int partition = 0; partition < 2; partition++) {
                is.due("clock", 0, x.clock(center, partition));
                is.due("pending", 0, x.pending(center, partition));
                is.due("serve", 0, x.serve(center, partition));
                is.due("lacks", CausalStore.NONE, x.lacks(center, partition, 0));
            }
            for (int to = 0; to < 3; to++) {
                is.due("flight", 0, x.flight(center, to));
                is.due("sent", CausalStore.NONE, x.sent(center, to, 0));
                is.due("deliver", false, x.deliver(center, to, 0));
            }
            for (int key = 0; key < 6; key++) {
                is.due("latest", CausalStore.NONE, x.latest(center, key));
            }
            is.due("visible", false, x.visible(center, 0));
        }
        for (int client = 0; client < 6; client++) {
            is.due("rounds", 0, x.rounds(client));
            is.due("read", CausalStore.NONE, x.read(client));
            is.due("nearest", 0, x.nearest(client));
            for (int key = 0; key < 6; key++) {
                is.due("context", CausalStore.NONE, x.context(client, key));
                is.due("got", CausalStore.NONE, x.got(client, key));
                is.due("get", CausalStore.NONE, x.get(client, key));
            }
        }
        is.due("about", 0, x.about(0, 0));
        is.due("dependency", CausalStore.BAD, x.dependency(0, 0));
    }

    private static void objectsAreApart() {
        Check is = new Check("promise 1");
        CausalStore x = new CausalStore();
        CausalStore y = new CausalStore();
        is.due("put", 0, x.put(0, 0, 1));
        is.due("latest of another object", CausalStore.NONE, y.latest(0, 0));
        is.due("first put of another object", 0, y.put(1, 1, 1));
        is.due("flight of another object", 0, y.flight(0, 1));
    }

    private static void putNumbersAndTimes() {
        Check is = new Check("promise 2");
        CausalStore x = new CausalStore();
        is.due("put(2, 4, MIN)", 0, x.put(2, 4, Integer.MIN_VALUE));
        is.due("version", 4 * 1 + 2, x.about(0, 1));
        is.due("put(5, 1, MAX)", 1, x.put(5, 1, Integer.MAX_VALUE));
        is.due("version, other partition, other client", 4 * 1 + 2, x.about(1, 1));
        is.due("put(5, 0, 0)", 2, x.put(5, 0, 0));
        is.due("version, clock is 1", 4 * 2 + 2, x.about(2, 1));
        is.due("put(0, 0, -1)", 3, x.put(0, 0, -1));
        is.due("version, other datacenter", 4 * 1, x.about(3, 1));
        is.due("sent to 0", 3, x.flight(2, 0));
        is.due("sent to 1", 3, x.flight(2, 1));
        is.due("not sent to itself", 0, x.flight(2, 2));
        is.due("visible at once", true, x.visible(2, 2));
        is.due("client sees it", 2, x.context(5, 0));
        is.due("another client does not", CausalStore.NONE, x.context(2, 0));
    }

    private static void putTakesTheTimeOfWhatTheClientDependsOn() {
        Check is = new Check("promise 2");
        CausalStore x = new CausalStore();
        x.put(0, 0, 1);
        x.put(0, 0, 2);
        x.put(0, 2, 3);
        is.due("get(3, 2)", 2, x.get(3, 2));
        is.due("put(3, 1, 4)", 3, x.put(3, 1, 4));
        is.due("time is 1 more than that of key 2", 4 * 4, x.about(3, 1));
        is.due("clock of partition 1", 4, x.clock(0, 1));
        is.due("clock of partition 0", 3, x.clock(0, 0));
        is.due("put(0, 3, 5)", 4, x.put(0, 3, 5));
        is.due("time is 1 more than the clock", 4 * 5, x.about(4, 1));
        is.due("it does not depend on what its client has not seen", CausalStore.NONE, x.dependency(4, 1));
    }

    private static void putRefusals() {
        Check is = new Check("promise 2");
        CausalStore x = new CausalStore();
        for (int wrong : WRONG_SIX) {
            is.due("put of no client", CausalStore.BAD, x.put(wrong, 0, 1));
            is.due("put to no key", CausalStore.BAD, x.put(0, wrong, 1));
        }
        x.begin(0, 1);
        is.due("put while open", CausalStore.BUSY, x.put(0, 0, 1));
        is.due("BAD before BUSY", CausalStore.BAD, x.put(0, 6, 1));
        is.due("nothing changed: clock", 0, x.clock(0, 0));
        is.due("nothing changed: flight", 0, x.flight(0, 1));
        is.due("nothing changed: latest", CausalStore.NONE, x.latest(0, 0));
        is.due("another client of the datacenter is free", 0, x.put(3, 0, 1));
        x.read(0);
        is.due("put after the end", 1, x.put(0, 0, 1));
    }

    private static void putFull() {
        Check is = new Check("promise 2");
        CausalStore x = new CausalStore();
        for (int write = 0; write < 40; write++) {
            is.due("put", write, x.put(write % 6, write % 2, write));
        }
        int clock = x.clock(0, 0);
        is.due("41st", CausalStore.FULL, x.put(0, 0, 1));
        is.due("BAD before FULL", CausalStore.BAD, x.put(6, 0, 1));
        is.due("BAD before FULL", CausalStore.BAD, x.put(0, -1, 1));
        x.begin(0, 1);
        is.due("BUSY before FULL", CausalStore.BUSY, x.put(0, 0, 1));
        is.due("nothing changed", clock, x.clock(0, 0));
        is.due("no write 40", CausalStore.BAD, x.dependency(40, 0));
        is.due("the last write", 39, x.about(39, 2));
        is.due("get goes on", 39, x.get(3, 1));

        CausalStore y = new CausalStore();
        for (int write = 0; write < 40; write++) {
            y.put(0, 0, write);
        }
        is.due("40 in flight", 40, y.flight(0, 1));
        is.due("the last in flight", 39, y.sent(0, 1, 39));
        is.due("none behind it", CausalStore.NONE, y.sent(0, 1, 40));
        is.due("version", 160, y.about(39, 1));
        for (int write = 0; write < 40; write++) {
            is.due("deliver", true, y.deliver(0, 1, 0));
        }
        is.due("40 pending", 40, y.pending(1, 0));
        is.due("all become visible in one go", 40, y.serve(1, 0));
    }

    private static void getSeesTheLatest() {
        Check is = new Check("promise 3");
        CausalStore x = new CausalStore();
        x.put(0, 0, 1);
        x.put(0, 1, 2);
        is.due("get of another datacenter", CausalStore.NONE, x.get(1, 1));
        is.due("nothing is seen", CausalStore.NONE, x.context(1, 1));
        is.due("get", 1, x.get(3, 1));
        is.due("it is seen", 1, x.context(3, 1));
        is.due("with what it depends on", 0, x.context(3, 0));
        x.put(0, 0, 3);
        is.due("get of a newer one", 2, x.get(3, 0));
        is.due("context", 2, x.context(3, 0));
        is.due("get of a key without writes", CausalStore.NONE, x.get(3, 5));
        is.due("context stays", 2, x.context(3, 0));
        is.due("no clock is changed", 0, x.clock(1, 0) + x.clock(2, 0));
    }

    private static void getRefusals() {
        Check is = new Check("promise 3");
        CausalStore x = new CausalStore();
        x.put(0, 0, 1);
        for (int wrong : WRONG_SIX) {
            is.due("get of no client", CausalStore.BAD, x.get(wrong, 0));
            is.due("get of no key", CausalStore.BAD, x.get(0, wrong));
        }
        x.begin(3, 2);
        is.due("get while open", CausalStore.BUSY, x.get(3, 0));
        is.due("BAD before BUSY", CausalStore.BAD, x.get(3, 6));
        is.due("BUSY before NONE", CausalStore.BUSY, x.get(3, 5));
        is.due("nothing is seen", CausalStore.NONE, x.context(3, 0));
    }

    private static void latestIsTheGreatestVersion() {
        Check is = new Check("promise 14");
        CausalStore x = new CausalStore();
        x.put(0, 0, 1);
        x.put(0, 0, 2);
        x.put(1, 0, 3);
        x.put(2, 0, 4);
        is.due("own one", 1, x.latest(0, 0));
        is.due("own one", 2, x.latest(1, 0));
        x.deliver(2, 1, 0);
        is.due("not before it is served", 2, x.latest(1, 0));
        x.serve(1, 0);
        is.due("same time, greater datacenter", 3, x.latest(1, 0));
        x.deliver(0, 1, 0);
        x.serve(1, 0);
        is.due("a smaller version that comes later", 3, x.latest(1, 0));
        x.deliver(0, 1, 0);
        x.serve(1, 0);
        is.due("smaller number, greater time", 1, x.latest(1, 0));
        is.due("another key", CausalStore.NONE, x.latest(1, 2));
        for (int wrong : WRONG_THREE) {
            is.due("no such datacenter", CausalStore.BAD, x.latest(wrong, 0));
        }
        for (int wrong : WRONG_SIX) {
            is.due("no such key", CausalStore.BAD, x.latest(0, wrong));
        }
    }

    private static void visibleWhereMade() {
        Check is = new Check("promise 15");
        CausalStore x = new CausalStore();
        x.put(4, 3, 1);
        is.due("where it is made", true, x.visible(1, 0));
        is.due("elsewhere", false, x.visible(0, 0));
        x.deliver(1, 0, 0);
        is.due("delivered", false, x.visible(0, 0));
        x.serve(0, 0);
        is.due("the other partition served", false, x.visible(0, 0));
        x.serve(0, 1);
        is.due("served", true, x.visible(0, 0));
        is.due("the third datacenter", false, x.visible(2, 0));
        x.put(4, 3, 2);
        is.due("an older one stays visible", true, x.visible(1, 0));
        is.due("no such write", false, x.visible(1, 2));
        is.due("no such write", false, x.visible(1, -1));
        is.due("no such write", false, x.visible(1, 40));
        is.due("no such write", false, x.visible(1, Integer.MAX_VALUE));
        is.due("no such write", false, x.visible(1, CausalStore.NONE));
        for (int wrong : WRONG_THREE) {
            is.due("no such datacenter", false, x.visible(wrong, 0));
        }
    }

    private static void clocks() {
        Check is = new Check("promise 16");
        CausalStore x = new CausalStore();
        x.put(0, 0, 1);
        x.put(0, 2, 1);
        x.put(0, 4, 1);
        is.due("own partition", 3, x.clock(0, 0));
        is.due("other partition", 0, x.clock(0, 1));
        is.due("other datacenter", 0, x.clock(1, 0));
        x.deliver(0, 1, 2);
        is.due("delivery moves it", 3, x.clock(1, 0));
        x.deliver(0, 1, 0);
        is.due("never back", 3, x.clock(1, 0));
        is.due("the other partition stays", 0, x.clock(1, 1));
        x.serve(1, 0);
        x.get(1, 0);
        is.due("serving and getting leave it", 3, x.clock(1, 0));
        is.due("put behind a delivery", 3, x.put(1, 2, 9));
        is.due("clock", 4, x.clock(1, 0));
        is.due("version", 4 * 4 + 1, x.about(3, 1));
        for (int wrong : WRONG_THREE) {
            is.due("no such datacenter", CausalStore.BAD, x.clock(wrong, 0));
        }
        for (int wrong : WRONG_TWO) {
            is.due("no such partition", CausalStore.BAD, x.clock(0, wrong));
        }
    }

    private static void contextKeepsTheGreatest() {
        Check is = new Check("promise 17");
        CausalStore x = new CausalStore();
        x.put(0, 0, 1);
        x.get(3, 0);
        x.put(3, 1, 2);
        x.put(0, 0, 3);
        is.due("get(0, 1)", 1, x.get(0, 1));
        is.due("a smaller version that is seen later", 2, x.context(0, 0));
        is.due("the one seen", 1, x.context(0, 1));
        is.due("the other client keeps its own", 0, x.context(3, 0));
        is.due("none", CausalStore.NONE, x.context(0, 2));
        for (int wrong : WRONG_SIX) {
            is.due("no such client", CausalStore.BAD, x.context(wrong, 0));
            is.due("no such key", CausalStore.BAD, x.context(0, wrong));
        }
    }

    private static void nearestLeavesOutWhatIsCovered() {
        Check is = new Check("promise 18");
        CausalStore x = new CausalStore();
        x.put(0, 0, 1);
        is.due("one", 1, x.nearest(0));
        x.put(3, 1, 1);
        x.get(0, 1);
        is.due("two that do not depend on each other", 3, x.nearest(0));
        x.put(0, 5, 1);
        is.due("a put covers all", 32, x.nearest(0));
        is.due("another client", 2, x.nearest(3));
        x.put(3, 2, 1);
        x.get(0, 2);
        is.due("one more beside", 36, x.nearest(0));
        for (int wrong : WRONG_SIX) {
            is.due("no such client", CausalStore.BAD, x.nearest(wrong));
        }
    }

    private static void nearestOfOneWhoseCoverWasReplaced() {
        Check is = new Check("promise 18");
        CausalStore x = new CausalStore();
        x.put(0, 0, 1);
        x.put(0, 1, 1);
        x.put(3, 1, 2);
        is.due("before", 2, x.nearest(0));
        is.due("get(0, 1)", 2, x.get(0, 1));
        is.due("still depends on it", 0, x.context(0, 0));
        is.due("the new one of key 1 does not cover key 0", 3, x.nearest(0));
        is.due("put", 3, x.put(0, 4, 1));
        is.due("its needs", 3, x.about(3, 3));
        x.put(3, 0, 7);
        x.get(0, 0);
        is.due("an older one of key 0 is covered, the newer is not", 17, x.nearest(0));
    }

    private static void about() {
        Check is = new Check("promise 19");
        CausalStore x = new CausalStore();
        x.put(1, 3, -77);
        x.put(1, 5, Integer.MIN_VALUE);
        is.due("key", 3, x.about(0, 0));
        is.due("version", 5, x.about(0, 1));
        is.due("value", -77, x.about(0, 2));
        is.due("needs", 0, x.about(0, 3));
        is.due("key", 5, x.about(1, 0));
        is.due("version", 9, x.about(1, 1));
        is.due("value", Integer.MIN_VALUE, x.about(1, 2));
        is.due("needs", 8, x.about(1, 3));
        x.put(1, 5, 1);
        is.due("a need of its own key", 32, x.about(2, 3));
        is.due("needs of another stay", 8, x.about(1, 3));
        for (int which : new int[] {-1, 4, 5, Integer.MIN_VALUE, Integer.MAX_VALUE}) {
            is.due("another which", 0, x.about(0, which));
        }
        for (int wrong : new int[] {-1, -4, 3, 40, Integer.MIN_VALUE, Integer.MAX_VALUE}) {
            for (int which = 0; which < 4; which++) {
                is.due("no such write", 0, x.about(wrong, which));
            }
        }
    }

    private static void dependency() {
        Check is = new Check("promise 20");
        CausalStore x = new CausalStore();
        x.put(0, 0, 1);
        x.put(0, 1, 1);
        x.put(0, 0, 2);
        is.due("none", CausalStore.NONE, x.dependency(0, 0));
        is.due("the one before", 0, x.dependency(1, 0));
        is.due("not itself", CausalStore.NONE, x.dependency(1, 1));
        is.due("its own key's one before", 0, x.dependency(2, 0));
        is.due("key 1", 1, x.dependency(2, 1));
        x.put(0, 1, 3);
        x.get(0, 0);
        is.due("stays as it was made", 0, x.dependency(1, 0));
        is.due("of a later one", 2, x.dependency(3, 0));
        for (int wrong : WRONG_SIX) {
            is.due("no such key", CausalStore.BAD, x.dependency(0, wrong));
        }
        for (int wrong : new int[] {-1, -4, 4, 40, Integer.MIN_VALUE, Integer.MAX_VALUE}) {
            is.due("no such write", CausalStore.BAD, x.dependency(wrong, 0));
        }
    }
}
