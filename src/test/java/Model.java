import java.util.ArrayList;
import java.util.HashMap;
import java.util.HashSet;
import java.util.List;
import java.util.Map;
import java.util.Objects;
import java.util.Set;
import java.util.TreeMap;
import java.util.TreeSet;

/** The document's words, followed slowly and with other means than the program's: nothing is kept that can be found out. */
final class Model {
    private static final int BAD = -1;
    private static final int BUSY = -2;
    private static final int FULL = -3;
    private static final int NONE = -4;

    private static final class Write {
        int number;
        int key;
        int value;
        int time;
        int center;
        Map<Integer, Write> depends;
        Set<Write> needs;

        int version() {
            return 4 * time + center;
        }
    }

    private static final class Transaction {
        final TreeSet<Integer> set = new TreeSet<>();
        final Map<Integer, Write> first = new HashMap<>();
        final TreeMap<Integer, Write> second = new TreeMap<>();
        final Set<Integer> readAgain = new HashSet<>();
        boolean open = true;
    }

    private final List<Write> writes = new ArrayList<>();
    private final List<Set<Write>> visible = new ArrayList<>();
    private final Map<String, List<Write>> flights = new HashMap<>();
    private final Map<String, List<Write>> pending = new HashMap<>();
    private final Map<String, Integer> clocks = new HashMap<>();
    private final List<Map<Integer, Write>> contexts = new ArrayList<>();
    private final Transaction[] transactions = new Transaction[6];

    Model() {
        for (int center = 0; center < 3; center++) {
            visible.add(new HashSet<>());
        }
        for (int client = 0; client < 6; client++) {
            contexts.add(new HashMap<>());
        }
    }

    private static boolean in(int x, int end) {
        return 0 <= x && x < end;
    }

    private static int number(Write write) {
        return write == null ? NONE : write.number;
    }

    private static String pair(int one, int other) {
        return one + "/" + other;
    }

    private static Write greatest(List<Write> among) {
        Write greatest = null;
        for (Write write : among) {
            if (write != null && (greatest == null || write.version() > greatest.version())) {
                greatest = write;
            }
        }
        return greatest;
    }

    private Write latestWrite(int center, int key) {
        List<Write> among = new ArrayList<>();
        for (Write write : visible.get(center)) {
            if (write.key == key) {
                among.add(write);
            }
        }
        return greatest(among);
    }

    private static Map<Integer, Write> after(Map<Integer, Write> context, Write seen) {
        Map<Integer, Write> next = new HashMap<>();
        for (int key = 0; key < 6; key++) {
            List<Write> among = new ArrayList<>();
            among.add(context.get(key));
            among.add(seen.depends.get(key));
            if (key == seen.key) {
                among.add(seen);
            }
            Write write = greatest(among);
            if (write != null) {
                next.put(key, write);
            }
        }
        return next;
    }

    private void see(int client, Write seen) {
        if (seen != null) {
            contexts.set(client, after(contexts.get(client), seen));
        }
    }

    private static Set<Write> nearestOf(Map<Integer, Write> context) {
        Set<Write> nearest = new HashSet<>(context.values());
        for (Write write : context.values()) {
            nearest.removeAll(write.depends.values());
        }
        return nearest;
    }

    private static int sum(Set<Write> of) {
        int sum = 0;
        for (Write write : of) {
            sum += (int) Math.pow(2, write.key);
        }
        return sum;
    }

    private boolean isOpen(int client) {
        return transactions[client] != null && transactions[client].open;
    }

    private List<Write> inFlight(int from, int to) {
        return flights.computeIfAbsent(pair(from, to), name -> new ArrayList<>());
    }

    private List<Write> waiting(int center, int partition) {
        return pending.computeIfAbsent(pair(center, partition), name -> new ArrayList<>());
    }

    int put(int client, int key, int value) {
        if (!in(client, 6) || !in(key, 6)) return BAD;
        if (isOpen(client)) return BUSY;
        if (writes.size() == 40) return FULL;
        Write write = new Write();
        write.number = writes.size();
        write.key = key;
        write.value = value;
        write.center = client % 3;
        write.depends = contexts.get(client);
        write.needs = nearestOf(write.depends);
        write.time = clock(write.center, key % 2);
        for (Write before : write.depends.values()) {
            write.time = Math.max(write.time, before.time);
        }
        write.time++;
        clocks.put(pair(write.center, key % 2), write.time);
        writes.add(write);
        visible.get(write.center).add(write);
        for (int away = 1; away < 3; away++) {
            inFlight(write.center, (write.center + away) % 3).add(write);
        }
        see(client, write);
        return write.number;
    }

    int get(int client, int key) {
        if (!in(client, 6) || !in(key, 6)) return BAD;
        if (isOpen(client)) return BUSY;
        Write write = latestWrite(client % 3, key);
        see(client, write);
        return number(write);
    }

    boolean begin(int client, int set) {
        if (!in(client, 6) || isOpen(client) || set < 1 || set > 63) return false;
        transactions[client] = new Transaction();
        for (int key = 0; key < 6; key++) {
            if ((set / (int) Math.pow(2, key)) % 2 == 1) {
                transactions[client].set.add(key);
            }
        }
        return true;
    }

    int read(int client) {
        if (!in(client, 6)) return BAD;
        if (!isOpen(client)) return NONE;
        Transaction t = transactions[client];
        int left = t.first.size() < t.set.size() ? readFirst(client, t) : readSecond(t);
        if (left == 0) {
            for (int key : t.set) {
                see(client, gotWrite(t, key));
            }
            t.open = false;
        }
        return left;
    }

    private int readFirst(int client, Transaction t) {
        for (int key : t.set) {
            if (!t.first.containsKey(key)) {
                t.first.put(key, latestWrite(client % 3, key));
                break;
            }
        }
        if (t.first.size() < t.set.size()) return t.set.size() - t.first.size();
        for (int key : t.set) {
            List<Write> among = new ArrayList<>();
            among.add(t.first.get(key));
            for (Write read : t.first.values()) {
                if (read != null) among.add(read.depends.get(key));
            }
            Write due = greatest(among);
            if (!Objects.equals(due, t.first.get(key))) {
                t.second.put(key, due);
                if (!visible.get(client % 3).contains(due)) {
                    throw new IllegalStateException("the due write is visible there, says the document");
                }
            }
        }
        return t.second.size();
    }

    private static int readSecond(Transaction t) {
        for (int key : t.second.keySet()) {
            if (t.readAgain.add(key)) break;
        }
        return t.second.size() - t.readAgain.size();
    }

    private static Write gotWrite(Transaction t, int key) {
        return t.readAgain.contains(key) ? t.second.get(key) : t.first.get(key);
    }

    int got(int client, int key) {
        if (!in(client, 6) || !in(key, 6)) return BAD;
        return transactions[client] == null ? NONE : number(gotWrite(transactions[client], key));
    }

    int rounds(int client) {
        if (!in(client, 6)) return BAD;
        if (transactions[client] == null) return 0;
        return transactions[client].second.isEmpty() ? 1 : 2;
    }

    boolean deliver(int from, int to, int k) {
        if (sent(from, to, k) == NONE) return false;
        Write write = inFlight(from, to).remove(k);
        int partition = write.key % 2;
        clocks.put(pair(to, partition), Math.max(clock(to, partition), write.time));
        waiting(to, partition).add(write);
        return true;
    }

    int serve(int center, int partition) {
        if (!in(center, 3) || !in(partition, 2)) return BAD;
        int shown = 0;
        for (Write write : new ArrayList<>(waiting(center, partition))) {
            if (visible.get(center).containsAll(write.needs)) {
                waiting(center, partition).remove(write);
                visible.get(center).add(write);
                shown++;
            }
        }
        return shown;
    }

    int flight(int from, int to) {
        return in(from, 3) && in(to, 3) ? inFlight(from, to).size() : 0;
    }

    int sent(int from, int to, int k) {
        return in(k, flight(from, to)) ? number(inFlight(from, to).get(k)) : NONE;
    }

    int pending(int center, int partition) {
        return in(center, 3) && in(partition, 2) ? waiting(center, partition).size() : BAD;
    }

    int lacks(int center, int partition, int k) {
        if (!in(k, pending(center, partition))) return NONE;
        Set<Write> lacking = new HashSet<>(waiting(center, partition).get(k).needs);
        lacking.removeAll(visible.get(center));
        return lacking.size();
    }

    int latest(int center, int key) {
        return in(center, 3) && in(key, 6) ? number(latestWrite(center, key)) : BAD;
    }

    boolean visible(int center, int write) {
        return in(center, 3) && in(write, writes.size()) && visible.get(center).contains(writes.get(write));
    }

    int clock(int center, int partition) {
        return in(center, 3) && in(partition, 2) ? clocks.getOrDefault(pair(center, partition), 0) : BAD;
    }

    int context(int client, int key) {
        return in(client, 6) && in(key, 6) ? number(contexts.get(client).get(key)) : BAD;
    }

    int nearest(int client) {
        return in(client, 6) ? sum(nearestOf(contexts.get(client))) : BAD;
    }

    int about(int write, int which) {
        if (!in(write, writes.size())) return 0;
        Write w = writes.get(write);
        return which == 0 ? w.key : which == 1 ? w.version() : which == 2 ? w.value : which == 3 ? sum(w.needs) : 0;
    }

    int dependency(int write, int key) {
        return in(write, writes.size()) && in(key, 6) ? number(writes.get(write).depends.get(key)) : BAD;
    }
}
