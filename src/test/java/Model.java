import java.util.ArrayList;
import java.util.List;
import java.util.NoSuchElementException;

/**
 * The document's words told slowly: every sum is worked out anew from the batches and from the list of what was
 * posted, and what may be refused midway is tried on a copy.
 */
final class Model {
    enum State { OPEN, HELD, POSTED, REVERSED, DROPPED }

    record Entry(int account, int lot, int amount) { }

    record Posted(int batch, Entry entry, int day) { }

    static final class Batch {
        State state = State.OPEN;
        final List<Entry> entries = new ArrayList<>();
        int day = -1;
        int reversedBy = -1;
        int reverses = -1;

        Batch copy() {
            Batch b = new Batch();
            b.state = state;
            b.entries.addAll(entries);
            b.day = day;
            b.reversedBy = reversedBy;
            b.reverses = reverses;
            return b;
        }

        long net(int account, int lot) {
            return entries.stream().filter(e -> e.account == account && e.lot == lot).mapToLong(e -> e.amount).sum();
        }

        long held(int account, int lot) {
            return state == State.HELD && account != 0 ? Math.max(0, -net(account, lot)) : 0;
        }

        boolean sound() {
            for (Entry one : entries) {
                if (entries.stream().filter(e -> e.lot == one.lot).mapToLong(e -> e.amount).sum() != 0) {
                    return false;
                }
            }
            return !entries.isEmpty();
        }
    }

    private List<Batch> batches = new ArrayList<>();
    private List<Posted> posted = new ArrayList<>();
    private final int[] places = {1, 1, 1, 1, 1, 1};
    private int lastClosed = -1;

    int batch() {
        room(batches.size() < 40);
        batches.add(new Batch());
        return batches.size() - 1;
    }

    int entry(int batch, int account, int lot, int n) {
        Batch b = find(batch);
        range(account, 0, 15);
        range(lot, 0, 7);
        range(n, -1000000, 1000000);
        range(Math.abs(n), 1, 1000000);
        state(b.state == State.OPEN);
        room(b.entries.size() < 8);
        b.entries.add(new Entry(account, lot, n));
        return b.entries.size();
    }

    void hold(int batch) {
        Batch b = find(batch);
        state(b.state == State.OPEN && b.sound());
        for (int account = 1; account <= 15; account++) {
            for (int lot = 0; lot < 8; lot++) {
                room(Math.max(0, -b.net(account, lot)) <= available(account, lot));
            }
        }
        b.state = State.HELD;
    }

    void free(int batch) {
        Batch b = find(batch);
        state(b.state == State.HELD);
        b.state = State.OPEN;
    }

    void drop(int batch) {
        Batch b = find(batch);
        state(b.state == State.OPEN || b.state == State.HELD);
        b.state = State.DROPPED;
    }

    void post(int batch, int day) {
        Batch b = find(batch);
        range(day, 0, 1000);
        state(b.state == State.OPEN || b.state == State.HELD);
        state(b.sound());
        state(day > lastClosed);
        for (int account = 1; account <= 15; account++) {
            for (int lot = 0; lot < 8; lot++) {
                room(available(account, lot) + b.held(account, lot) + b.net(account, lot) >= 0);
            }
        }
        b.state = State.POSTED;
        b.day = day;
        for (Entry e : b.entries) {
            posted.add(new Posted(batch, e, day));
        }
    }

    int reverse(int batch, int day) {
        Batch b = find(batch);
        range(day, 0, 1000);
        state(b.state == State.POSTED && day > lastClosed && day >= b.day);
        List<Batch> kept = copyOfBatches();
        try {
            int reversing = batch();
            for (Entry e : b.entries) {
                entry(reversing, e.account, e.lot, -e.amount);
            }
            post(reversing, day);
            b.state = State.REVERSED;
            b.reversedBy = reversing;
            batches.get(reversing).reverses = batch;
            return reversing;
        } catch (UnsupportedOperationException e) {
            batches = kept;
            throw e;
        }
    }

    int undo(int day) {
        range(day, 0, 1000);
        state(day > lastClosed);
        List<Integer> order = new ArrayList<>();
        for (Posted p : posted) {
            Batch b = batches.get(p.batch);
            if (b.state == State.POSTED && b.day == day && b.reverses < 0 && !order.contains(p.batch)) {
                order.add(0, p.batch);
            }
        }
        List<Batch> kept = copyOfBatches();
        List<Posted> keptPosted = new ArrayList<>(posted);
        try {
            for (int b : order) {
                reverse(b, day);
            }
        } catch (UnsupportedOperationException e) {
            batches = kept;
            posted = keptPosted;
            throw e;
        }
        return order.size();
    }

    int close(int day) {
        range(day, 0, 1000);
        int before = lastClosed;
        lastClosed = Math.max(lastClosed, day);
        return lastClosed - before;
    }

    long carry(int container, int place) {
        range(container, 10, 15);
        range(place, 1, 9);
        state(places[container - 10] != place);
        places[container - 10] = place;
        return posted.stream().filter(p -> p.entry.account == container).mapToLong(p -> p.entry.amount).sum();
    }

    long stock(int account, int lot) {
        return upTo(account, lot, 1000);
    }

    long upTo(int account, int lot, int day) {
        range(account, 0, 15);
        range(lot, 0, 7);
        range(day, 0, 1000);
        return posted.stream().filter(p -> p.entry.account == account && p.entry.lot == lot && p.day <= day)
                .mapToLong(p -> p.entry.amount).sum();
    }

    long available(int account, int lot) {
        return stock(account, lot) - batches.stream().mapToLong(b -> b.held(account, lot)).sum();
    }

    long at(int place, int lot) {
        range(place, 1, 9);
        range(lot, 0, 7);
        long sum = stock(place, lot);
        for (int container = 10; container <= 15; container++) {
            sum += places[container - 10] == place ? stock(container, lot) : 0;
        }
        return sum;
    }

    int row(int account, int i, int what) {
        range(account, 0, 15);
        List<Posted> rows = posted.stream().filter(p -> p.entry.account == account).toList();
        if (i < 0 || i >= rows.size()) {
            throw new NoSuchElementException();
        }
        range(what, 0, 3);
        Posted p = rows.get(i);
        return new int[] {p.batch, p.entry.lot, p.entry.amount, p.day}[what];
    }

    int told(int batch, int what) {
        Batch b = find(batch);
        range(what, 0, 4);
        return new int[] {b.state.ordinal(), b.entries.size(), b.day, b.reversedBy, b.reverses}[what];
    }

    long packed(int batch, int i) {
        Batch b = find(batch);
        if (i < 0 || i >= b.entries.size()) {
            throw new NoSuchElementException();
        }
        Entry e = b.entries.get(i);
        return 128L * e.amount + 8L * e.account + e.lot;
    }

    int count(int what) {
        int held = (int) batches.stream().filter(b -> b.state == State.HELD).count();
        return what < 0 || what > 3 ? -1 : new int[] {batches.size(), posted.size(), held, lastClosed + 1}[what];
    }

    private List<Batch> copyOfBatches() {
        List<Batch> copy = new ArrayList<>();
        for (Batch b : batches) {
            copy.add(b.copy());
        }
        return copy;
    }

    private Batch find(int batch) {
        if (batch < 0 || batch >= batches.size()) {
            throw new NoSuchElementException();
        }
        return batches.get(batch);
    }

    private static void range(int n, int low, int high) {
        if (n < low || n > high) {
            throw new IllegalArgumentException();
        }
    }

    private static void state(boolean holds) {
        if (!holds) {
            throw new IllegalStateException();
        }
    }

    private static void room(boolean holds) {
        if (!holds) {
            throw new UnsupportedOperationException();
        }
    }
}
