import java.util.ArrayList;
import java.util.List;
import java.util.Random;

/**
 * The document's first sentence, part by part, in random runs. It is asked through the face alone, so that a wrong
 * reading of the Terms, which the model might share with the program, would show here.
 */
public final class WhatItIsTest {
    private static final Check IS = new Check("what it is");
    private static final int RUNS = 6000;
    private static final int ENOUGH = 500;
    // These keep a run with all its questions within 512 calls.
    private static final int ACTS = 200;
    private static final int MOST_WRITES = 16;
    private static final int MOST_TRANSACTIONS = 12;
    private static final int NONE = CausalStore.NONE;

    private static int secondRounds = 0;
    private static int waiting = 0;

    private record Ended(int client, int set, int rounds, int[] got) { }

    private final CausalStore x = new CausalStore();
    private final Random random;
    private final int hotKeys;
    // Second rounds come about where one client of a datacenter puts while another one reads.
    private final boolean putterAndReader;
    private final int[] openSet = new int[6];
    private final List<Ended> ended = new ArrayList<>();
    private int begun = 0;
    private int writes = 0;

    private final int[] key = new int[MOST_WRITES];
    private final int[] version = new int[MOST_WRITES];
    private final int[][] depends = new int[MOST_WRITES][6];
    private final boolean[][] visible = new boolean[3][MOST_WRITES];

    private WhatItIsTest(int seed) {
        random = new Random(seed);
        hotKeys = 2 + random.nextInt(5);
        putterAndReader = random.nextBoolean();
    }

    public static void main(String[] args) {
        for (int seed = 0; seed < RUNS && Check.wrongSoFar() == 0; seed++) {
            WhatItIsTest run = new WhatItIsTest(seed);
            for (int act = 0; act < ACTS; act++) {
                run.act();
            }
            run.lookAtWrites();
            run.allThatItDependsOnIsVisible();
            run.theGreatestVersionWins();
            for (Ended transaction : run.ended) {
                run.keysAreReadAsTheyBelongTogether(transaction);
            }
        }
        System.out.println(secondRounds + " transactions took two rounds, " + waiting + " writes had to wait");
        IS.due("enough transactions took two rounds", true, secondRounds >= ENOUGH);
        IS.due("enough writes had to wait", true, waiting >= ENOUGH);
        Check.finish();
    }

    private void act() {
        int roll = random.nextInt(20);
        if (roll < 4) {
            put(putterAndReader ? 0 : random.nextInt(6));
        } else if (roll < 6) {
            x.get(random.nextInt(6), random.nextInt(hotKeys));
        } else if (roll < 12) {
            readOn(putterAndReader ? 3 : random.nextInt(6));
        } else if (roll < 16) {
            x.deliver(random.nextInt(3), random.nextInt(3), random.nextInt(3));
        } else {
            x.serve(random.nextInt(3), random.nextInt(2));
        }
    }

    private void put(int client) {
        int write = writes < MOST_WRITES ? x.put(client, random.nextInt(hotKeys), 1) : NONE;
        if (write >= 0) {
            writes++;
            IS.due("a write is visible at once where it is made", true, x.visible(client % 3, write));
        }
    }

    private void readOn(int client) {
        if (openSet[client] != 0) {
            if (x.read(client) == 0) {
                end(client);
            }
        } else if (begun < MOST_TRANSACTIONS) {
            begun++;
            openSet[client] = 1 + random.nextInt((1 << hotKeys) - 1);
            x.begin(client, openSet[client]);
        }
    }

    private void end(int client) {
        int[] got = new int[6];
        for (int of = 0; of < 6; of++) {
            got[of] = x.got(client, of);
        }
        ended.add(new Ended(client, openSet[client], x.rounds(client), got));
        openSet[client] = 0;
    }

    private void lookAtWrites() {
        for (int write = 0; write < writes; write++) {
            key[write] = x.about(write, 0);
            version[write] = x.about(write, 1);
            for (int of = 0; of < 6; of++) {
                depends[write][of] = x.dependency(write, of);
            }
            for (int center = 0; center < 3; center++) {
                visible[center][write] = x.visible(center, write);
            }
        }
        for (int center = 0; center < 3; center++) {
            waiting += x.pending(center, 0) + x.pending(center, 1);
        }
    }

    private void allThatItDependsOnIsVisible() {
        for (int center = 0; center < 3; center++) {
            for (int write = 0; write < writes; write++) {
                for (int of = 0; of < 6 && visible[center][write]; of++) {
                    int before = depends[write][of];
                    IS.due("visible elsewhere only when all that it depends on is visible there",
                            true, before == NONE || visible[center][before]);
                }
            }
        }
    }

    private void theGreatestVersionWins() {
        for (int center = 0; center < 3; center++) {
            for (int of = 0; of < 6; of++) {
                int greatest = NONE;
                for (int write = 0; write < writes; write++) {
                    if (key[write] == of && visible[center][write]
                            && (greatest == NONE || version[write] > version[greatest])) {
                        greatest = write;
                    }
                }
                IS.due("the greatest version of a key wins", greatest, x.latest(center, of));
            }
        }
    }

    /** No write that was got depends on a newer write of a key of the set than the one that was got for it. */
    private void keysAreReadAsTheyBelongTogether(Ended transaction) {
        int[] got = transaction.got;
        IS.due("in at most two rounds", true, transaction.rounds == 1 || transaction.rounds == 2);
        secondRounds += transaction.rounds == 2 ? 1 : 0;
        for (int write : got) {
            if (write == NONE) {
                continue;
            }
            IS.due("what was got is visible there", true, visible[transaction.client % 3][write]);
            for (int of = 0; of < 6; of++) {
                int before = depends[write][of];
                if (before != NONE && (transaction.set & 1 << of) != 0) {
                    IS.due("keys are read as they belong together", true,
                            got[of] != NONE && version[got[of]] >= version[before]);
                }
            }
        }
    }
}
