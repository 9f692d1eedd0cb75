/** Promises 8 to 13: what is in flight, delivered, pending and served. */
public final class SendingTest {
    private static final int[] WRONG_THREE = {-1, 3, Integer.MIN_VALUE, Integer.MAX_VALUE};
    private static final int[] WRONG_TWO = {-1, 2, Integer.MIN_VALUE, Integer.MAX_VALUE};

    public static void main(String[] args) {
        deliverInAnyOrder();
        deliverRefusals();
        serveOnceInOrder();
        servePassesByThoseThatWait();
        serveWaitsForOtherPartition();
        serveLooksAtNeedsOnly();
        serveRefusals();
        flight();
        sent();
        pending();
        lacks();
        Check.finish();
    }

    private static void deliverInAnyOrder() {
        Check is = new Check("promise 8");
        CausalStore x = new CausalStore();
        x.put(0, 0, 1);
        x.put(3, 1, 2);
        x.put(0, 2, 3);
        is.due("the middle one", true, x.deliver(0, 2, 1));
        is.due("pending in its partition", 1, x.pending(2, 1));
        is.due("none in the other", 0, x.pending(2, 0));
        is.due("in front", 0, x.sent(0, 2, 0));
        is.due("behind", 2, x.sent(0, 2, 1));
        is.due("the last", true, x.deliver(0, 2, 1));
        is.due("the first", true, x.deliver(0, 2, 0));
        is.due("no more", false, x.deliver(0, 2, 0));
        is.due("the other datacenter's are in flight still", 3, x.flight(0, 1));
        is.due("pending", 2, x.pending(2, 0));
        is.due("clock", 2, x.clock(2, 0));
        is.due("clock", 1, x.clock(2, 1));
        is.due("visible only when served", false, x.visible(2, 0));
    }

    private static void deliverRefusals() {
        Check is = new Check("promise 8");
        CausalStore x = new CausalStore();
        x.put(0, 0, 1);
        is.due("behind the last", false, x.deliver(0, 1, 1));
        is.due("before the first", false, x.deliver(0, 1, -1));
        is.due("far", false, x.deliver(0, 1, Integer.MAX_VALUE));
        is.due("far", false, x.deliver(0, 1, Integer.MIN_VALUE));
        is.due("the other way", false, x.deliver(1, 0, 0));
        for (int center = 0; center < 3; center++) {
            is.due("to itself", false, x.deliver(center, center, 0));
        }
        for (int wrong : WRONG_THREE) {
            is.due("from nowhere", false, x.deliver(wrong, 1, 0));
            is.due("to nowhere", false, x.deliver(0, wrong, 0));
        }
        is.due("from -1 to 4 is not from 0 to 1", false, x.deliver(-1, 4, 0));
        is.due("nothing changed: flight", 1, x.flight(0, 1));
        is.due("nothing changed: clock", 0, x.clock(1, 0));
        is.due("nothing changed: pending", 0, x.pending(1, 0));
    }

    private static void serveOnceInOrder() {
        Check is = new Check("promise 9");
        CausalStore x = new CausalStore();
        for (int write = 0; write < 4; write++) {
            x.put(0, 0, write);
        }
        x.deliver(0, 1, 0);
        x.deliver(0, 1, 0);
        x.deliver(0, 1, 1);
        x.deliver(0, 1, 0);
        is.due("0, 1 and 2 in one go, 3 not: it stood before 2", 3, x.serve(1, 0));
        is.due("3 waits", 1, x.pending(1, 0));
        is.due("3 lacks nothing now", 0, x.lacks(1, 0, 0));
        is.due("latest", 2, x.latest(1, 0));
        is.due("serve again", 1, x.serve(1, 0));
        is.due("latest", 3, x.latest(1, 0));
        is.due("none left", 0, x.serve(1, 0));
        is.due("none pending", 0, x.pending(1, 0));
    }

    private static void servePassesByThoseThatWait() {
        Check is = new Check("promise 9");
        CausalStore x = new CausalStore();
        x.put(0, 1, 1);
        x.put(0, 0, 2);
        x.put(3, 2, 3);
        x.put(0, 4, 4);
        x.put(3, 4, 5);
        for (int turn = 0; turn < 4; turn++) {
            x.deliver(0, 2, 1);
        }
        is.due("those of client 3", 2, x.serve(2, 0));
        is.due("two wait", 2, x.pending(2, 0));
        is.due("visible", true, x.visible(2, 2) && x.visible(2, 4));
        is.due("not visible", false, x.visible(2, 1) || x.visible(2, 3));
        x.deliver(0, 2, 0);
        is.due("partition 1", 1, x.serve(2, 1));
        is.due("both, in their order", 2, x.serve(2, 0));
    }

    private static void serveWaitsForOtherPartition() {
        Check is = new Check("promise 9");
        CausalStore x = new CausalStore();
        x.put(0, 0, 1);
        x.put(0, 1, 2);
        x.deliver(0, 1, 0);
        x.deliver(0, 1, 0);
        is.due("need is only pending", 0, x.serve(1, 1));
        is.due("need becomes visible", 1, x.serve(1, 0));
        is.due("not by itself", false, x.visible(1, 1));
        is.due("now", 1, x.serve(1, 1));
        is.due("another datacenter is not served", false, x.visible(2, 0));
    }

    private static void serveLooksAtNeedsOnly() {
        Check is = new Check("promise 9");
        CausalStore x = new CausalStore();
        x.put(0, 0, 1);
        x.put(3, 1, 2);
        x.get(0, 1);
        x.put(0, 3, 3);
        is.due("needs of two partitions", 3, x.about(2, 3));
        x.deliver(0, 1, 1);
        x.deliver(0, 1, 1);
        is.due("1, and 2 lacks key 0", 1, x.serve(1, 1));
        is.due("lacks", 1, x.lacks(1, 1, 0));
        x.deliver(0, 1, 0);
        x.serve(1, 0);
        is.due("lacks", 0, x.lacks(1, 1, 0));
        is.due("2", 1, x.serve(1, 1));
    }

    private static void serveRefusals() {
        Check is = new Check("promise 9");
        CausalStore x = new CausalStore();
        for (int wrong : WRONG_THREE) {
            is.due("no such datacenter", CausalStore.BAD, x.serve(wrong, 0));
        }
        for (int wrong : WRONG_TWO) {
            is.due("no such partition", CausalStore.BAD, x.serve(0, wrong));
        }
        is.due("nothing pending", 0, x.serve(0, 0));
    }

    private static void flight() {
        Check is = new Check("promise 10");
        CausalStore x = new CausalStore();
        x.put(1, 0, 1);
        x.put(4, 3, 1);
        x.put(2, 3, 1);
        is.due("1 to 0", 2, x.flight(1, 0));
        is.due("1 to 2", 2, x.flight(1, 2));
        is.due("2 to 0", 1, x.flight(2, 0));
        is.due("2 to 1", 1, x.flight(2, 1));
        is.due("0 to 1", 0, x.flight(0, 1));
        is.due("1 to 1", 0, x.flight(1, 1));
        x.deliver(1, 0, 1);
        is.due("one less", 1, x.flight(1, 0));
        is.due("the other way is its own", 2, x.flight(1, 2));
        x.serve(0, 1);
        is.due("what came is not sent on", 0, x.flight(0, 2));
        for (int wrong : WRONG_THREE) {
            is.due("from nowhere", 0, x.flight(wrong, 0));
            is.due("to nowhere", 0, x.flight(1, wrong));
        }
        is.due("from 0 to 3 is not from 1 to 0", 0, x.flight(0, 3));
        is.due("from 2 to -1 is not from 1 to 2", 0, x.flight(2, -1));
    }

    private static void sent() {
        Check is = new Check("promise 11");
        CausalStore x = new CausalStore();
        x.put(2, 0, 1);
        x.put(0, 0, 1);
        x.put(5, 1, 1);
        is.due("first", 0, x.sent(2, 1, 0));
        is.due("second", 2, x.sent(2, 1, 1));
        is.due("third", CausalStore.NONE, x.sent(2, 1, 2));
        is.due("before the first", CausalStore.NONE, x.sent(2, 1, -1));
        is.due("far", CausalStore.NONE, x.sent(2, 1, Integer.MAX_VALUE));
        is.due("far", CausalStore.NONE, x.sent(2, 1, Integer.MIN_VALUE));
        is.due("asking changes nothing", 2, x.flight(2, 1));
        is.due("same datacenter", CausalStore.NONE, x.sent(2, 2, 0));
        for (int wrong : WRONG_THREE) {
            is.due("from nowhere", CausalStore.NONE, x.sent(wrong, 0, 0));
            is.due("to nowhere", CausalStore.NONE, x.sent(2, wrong, 0));
        }
        x.deliver(2, 1, 0);
        is.due("moved up", 2, x.sent(2, 1, 0));
        is.due("none behind", CausalStore.NONE, x.sent(2, 1, 1));
    }

    private static void pending() {
        Check is = new Check("promise 12");
        CausalStore x = new CausalStore();
        x.put(0, 0, 1);
        x.put(1, 2, 1);
        x.put(1, 3, 1);
        x.deliver(0, 2, 0);
        x.deliver(1, 2, 0);
        x.deliver(1, 2, 0);
        is.due("from two datacenters", 2, x.pending(2, 0));
        is.due("partition 1", 1, x.pending(2, 1));
        is.due("where it was made", 0, x.pending(0, 0));
        x.serve(2, 0);
        is.due("served", 0, x.pending(2, 0));
        is.due("partition 1 not yet", 1, x.pending(2, 1));
        for (int wrong : WRONG_THREE) {
            is.due("no such datacenter", CausalStore.BAD, x.pending(wrong, 0));
        }
        for (int wrong : WRONG_TWO) {
            is.due("no such partition", CausalStore.BAD, x.pending(2, wrong));
        }
    }

    private static void lacks() {
        Check is = new Check("promise 13");
        CausalStore x = new CausalStore();
        x.put(0, 0, 1);
        x.put(3, 1, 1);
        x.get(0, 1);
        x.put(0, 2, 1);
        x.put(0, 4, 1);
        x.deliver(0, 1, 3);
        x.deliver(0, 1, 2);
        x.deliver(0, 1, 0);
        is.due("3 needs 2 alone", 1, x.lacks(1, 0, 0));
        is.due("2 needs 0 and 1", 2, x.lacks(1, 0, 1));
        is.due("0 needs none", 0, x.lacks(1, 0, 2));
        is.due("behind the last", CausalStore.NONE, x.lacks(1, 0, 3));
        is.due("before the first", CausalStore.NONE, x.lacks(1, 0, -1));
        is.due("far", CausalStore.NONE, x.lacks(1, 0, Integer.MAX_VALUE));
        is.due("far", CausalStore.NONE, x.lacks(1, 0, Integer.MIN_VALUE));
        is.due("other partition", CausalStore.NONE, x.lacks(1, 1, 0));
        is.due("asking serves nothing", 3, x.pending(1, 0));
        x.serve(1, 0);
        is.due("2 moved up one less: 3 is still in front", 1, x.lacks(1, 0, 0));
        is.due("2 lacks 1", 1, x.lacks(1, 0, 1));
        is.due("0 is gone", CausalStore.NONE, x.lacks(1, 0, 2));
        for (int wrong : WRONG_THREE) {
            is.due("no such datacenter", CausalStore.NONE, x.lacks(wrong, 0, 0));
        }
        for (int wrong : WRONG_TWO) {
            is.due("no such partition", CausalStore.NONE, x.lacks(1, wrong, 0));
        }
    }
}
