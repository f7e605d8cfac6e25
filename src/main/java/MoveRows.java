import java.util.Arrays;
import java.util.NoSuchElementException;

/** Stock moves of a warehouse in double rows; the document's numbered promises say what each call answers. */
public final class MoveRows {
    private static final int OUTSIDE = 0;
    private static final int FIRST_PLACE = 1;
    private static final int LAST_PLACE = 9;
    private static final int FIRST_CONTAINER = 10;
    private static final int LAST_ACCOUNT = 15;
    private static final int CONTAINERS = LAST_ACCOUNT - FIRST_CONTAINER + 1;
    private static final int LOTS = 8;
    private static final int MAX_BATCHES = 40;
    private static final int MAX_ENTRIES = 8;
    private static final int MAX_AMOUNT = 1000000;
    private static final int LAST_DAY = 1000;
    private static final int NONE = -1;

    // A cell is an account with a lot, so that one number finds both in a table.
    private static final int CELLS = (LAST_ACCOUNT + 1) * LOTS;
    // OUTSIDE may go below nothing and holds nothing, so checks and holds begin behind its cells.
    private static final int FIRST_GUARDED_CELL = (OUTSIDE + 1) * LOTS;

    private static final int OPEN = 0;
    private static final int HELD = 1;
    private static final int POSTED = 2;
    private static final int REVERSED = 3;
    private static final int DROPPED = 4;

    private final int[] states = new int[MAX_BATCHES];
    private final int[] sizes = new int[MAX_BATCHES];
    private final int[] days = new int[MAX_BATCHES];
    private final int[] reversedBy = new int[MAX_BATCHES];
    private final int[] reversalOf = new int[MAX_BATCHES];
    private int batchCount = 0;

    private final int[] entryCells = new int[MAX_BATCHES * MAX_ENTRIES];
    private final int[] entryAmounts = new int[MAX_BATCHES * MAX_ENTRIES];

    // A batch is posted once at most, so the order of its batches tells the order of all posted entries.
    private final int[] postedOrder = new int[MAX_BATCHES];
    private int postedCount = 0;

    private final long[] stocks = new long[CELLS];
    private final long[] holds = new long[CELLS];
    // Kept between calls only to save making it anew: every use begins with clearing it.
    private final long[] net = new long[CELLS];

    private final int[] containerPlaces = new int[CONTAINERS];
    private int closedDays = 0;

    public MoveRows() {
        Arrays.fill(containerPlaces, FIRST_PLACE);
    }

    public int batch() throws UnsupportedOperationException {
        if (!hasRoomFor(1)) {
            throw new UnsupportedOperationException("there are forty batches");
        }
        return addBatch();
    }

    public int entry(int batch, int account, int lot, int n)
            throws NoSuchElementException, IllegalArgumentException, IllegalStateException, UnsupportedOperationException {
        checkBatch(batch);
        checkAccount(account);
        checkLot(lot);
        checkAmount(n);
        if (states[batch] != OPEN) {
            throw new IllegalStateException("the batch is not open");
        }
        if (sizes[batch] >= MAX_ENTRIES) {
            throw new UnsupportedOperationException("the batch has eight entries");
        }
        addEntry(batch, cellOf(account, lot), n);
        return sizes[batch];
    }

    public void hold(int batch) throws NoSuchElementException, IllegalStateException, UnsupportedOperationException {
        checkBatch(batch);
        if (states[batch] != OPEN) {
            throw new IllegalStateException("the batch is not open");
        }
        checkSound(batch);
        checkEnoughFree(batch, 1);
        changeHolds(batch, 1);
        states[batch] = HELD;
    }

    public void free(int batch) throws NoSuchElementException, IllegalStateException {
        checkBatch(batch);
        if (states[batch] != HELD) {
            throw new IllegalStateException("the batch is not held");
        }
        changeHolds(batch, -1);
        states[batch] = OPEN;
    }

    public void drop(int batch) throws NoSuchElementException, IllegalStateException {
        checkBatch(batch);
        checkOpenOrHeld(batch);
        if (states[batch] == HELD) {
            changeHolds(batch, -1);
        }
        states[batch] = DROPPED;
    }

    public void post(int batch, int day)
            throws NoSuchElementException, IllegalArgumentException, IllegalStateException, UnsupportedOperationException {
        checkBatch(batch);
        checkDay(day);
        checkOpenOrHeld(batch);
        checkSound(batch);
        checkNotClosed(day);
        if (states[batch] == HELD) {
            // What a batch holds is all that its net can take, so nothing can be lacking here.
            changeHolds(batch, -1);
        } else {
            checkEnoughFree(batch, 1);
        }
        postEntries(batch, day);
    }

    public int reverse(int batch, int day)
            throws NoSuchElementException, IllegalArgumentException, IllegalStateException, UnsupportedOperationException {
        checkBatch(batch);
        checkDay(day);
        if (states[batch] != POSTED) {
            throw new IllegalStateException("the batch is not posted");
        }
        checkNotClosed(day);
        if (day < days[batch]) {
            throw new IllegalStateException("the day is before that of the batch");
        }
        if (!hasRoomFor(1)) {
            throw new UnsupportedOperationException("there are forty batches");
        }
        checkEnoughFree(batch, -1);
        return postReversal(batch, day);
    }

    public int undo(int day) throws IllegalArgumentException, IllegalStateException, UnsupportedOperationException {
        checkDay(day);
        checkNotClosed(day);
        int many = countUndoable(day);
        if (!hasRoomFor(many)) {
            throw new UnsupportedOperationException("there is no room for the reversing batches");
        }
        if (!isEnoughFreeToUndo(day)) {
            throw new UnsupportedOperationException("not enough is free to reverse all batches of the day");
        }
        for (int p = postedCount - 1; p >= 0; p--) {
            if (isUndoable(postedOrder[p], day)) {
                postReversal(postedOrder[p], day);
            }
        }
        return many;
    }

    public int close(int day) throws IllegalArgumentException {
        checkDay(day);
        int more = Math.max(0, day + 1 - closedDays);
        closedDays += more;
        return more;
    }

    public long carry(int container, int place) throws IllegalArgumentException, IllegalStateException {
        if (container < FIRST_CONTAINER || container > LAST_ACCOUNT) {
            throw new IllegalArgumentException("no such container");
        }
        checkPlace(place);
        if (containerPlaces[container - FIRST_CONTAINER] == place) {
            throw new IllegalStateException("the container stands there");
        }
        containerPlaces[container - FIRST_CONTAINER] = place;
        return sumOfAllLots(container);
    }

    public long stock(int account, int lot) throws IllegalArgumentException {
        checkAccount(account);
        checkLot(lot);
        return stocks[cellOf(account, lot)];
    }

    public long upTo(int account, int lot, int day) throws IllegalArgumentException {
        checkAccount(account);
        checkLot(lot);
        checkDay(day);
        long sum = 0;
        for (int p = 0; p < postedCount; p++) {
            int batch = postedOrder[p];
            if (days[batch] <= day) {
                sum += netOfCell(batch, cellOf(account, lot));
            }
        }
        return sum;
    }

    public long available(int account, int lot) throws IllegalArgumentException {
        checkAccount(account);
        checkLot(lot);
        return freeOf(cellOf(account, lot));
    }

    public long at(int place, int lot) throws IllegalArgumentException {
        checkPlace(place);
        checkLot(lot);
        long sum = stocks[cellOf(place, lot)];
        for (int c = 0; c < CONTAINERS; c++) {
            if (containerPlaces[c] == place) {
                sum += stocks[cellOf(FIRST_CONTAINER + c, lot)];
            }
        }
        return sum;
    }

    public int row(int account, int i, int what) throws NoSuchElementException, IllegalArgumentException {
        checkAccount(account);
        int slot = findPostedSlot(account, i);
        if (slot == NONE) {
            throw new NoSuchElementException("the account has not so many posted entries");
        }
        int batch = slot / MAX_ENTRIES;
        switch (what) {
            case 0: return batch;
            case 1: return entryCells[slot] % LOTS;
            case 2: return entryAmounts[slot];
            case 3: return days[batch];
            default: throw new IllegalArgumentException("what is not 0 to 3");
        }
    }

    public int told(int batch, int what) throws NoSuchElementException, IllegalArgumentException {
        checkBatch(batch);
        switch (what) {
            case 0: return states[batch];
            case 1: return sizes[batch];
            case 2: return days[batch];
            case 3: return reversedBy[batch];
            case 4: return reversalOf[batch];
            default: throw new IllegalArgumentException("what is not 0 to 4");
        }
    }

    public long packed(int batch, int i) throws NoSuchElementException {
        checkBatch(batch);
        if (i < 0 || i >= sizes[batch]) {
            throw new NoSuchElementException("no such entry");
        }
        int slot = slotOf(batch, i);
        // A cell is 8 times the account and the lot already.
        return entryAmounts[slot] * 128L + entryCells[slot];
    }

    public int count(int what) {
        switch (what) {
            case 0: return batchCount;
            case 1: return countPostedEntries();
            case 2: return countHeld();
            case 3: return closedDays;
            default: return -1;
        }
    }

    private void checkBatch(int batch) {
        if (batch < 0 || batch >= batchCount) {
            throw new NoSuchElementException("no such batch");
        }
    }

    private static void checkAccount(int account) {
        if (account < OUTSIDE || account > LAST_ACCOUNT) {
            throw new IllegalArgumentException("no such account");
        }
    }

    private static void checkPlace(int place) {
        if (place < FIRST_PLACE || place > LAST_PLACE) {
            throw new IllegalArgumentException("no such place");
        }
    }

    private static void checkLot(int lot) {
        if (lot < 0 || lot >= LOTS) {
            throw new IllegalArgumentException("no such lot");
        }
    }

    private static void checkAmount(int n) {
        if (n < -MAX_AMOUNT || n > MAX_AMOUNT || n == 0) {
            throw new IllegalArgumentException("no such amount");
        }
    }

    private static void checkDay(int day) {
        if (day < 0 || day > LAST_DAY) {
            throw new IllegalArgumentException("no such day");
        }
    }

    private void checkNotClosed(int day) {
        if (day < closedDays) {
            throw new IllegalStateException("the day is closed");
        }
    }

    private void checkOpenOrHeld(int batch) {
        if (states[batch] != OPEN && states[batch] != HELD) {
            throw new IllegalStateException("the batch is neither open nor held");
        }
    }

    private void checkSound(int batch) {
        if (!isSound(batch)) {
            throw new IllegalStateException("the batch is not sound");
        }
    }

    private void checkEnoughFree(int batch, int sign) {
        clearNet();
        addToNet(batch, sign);
        if (!isNetCovered()) {
            throw new UnsupportedOperationException("not enough is free");
        }
    }

    private boolean hasRoomFor(int batches) {
        return batches <= MAX_BATCHES - batchCount;
    }

    private boolean isSound(int batch) {
        if (sizes[batch] == 0) {
            return false;
        }
        for (int lot = 0; lot < LOTS; lot++) {
            if (sumOfLot(batch, lot) != 0) {
                return false;
            }
        }
        return true;
    }

    private long sumOfLot(int batch, int lot) {
        long sum = 0;
        for (int i = 0; i < sizes[batch]; i++) {
            int slot = slotOf(batch, i);
            if (entryCells[slot] % LOTS == lot) {
                sum += entryAmounts[slot];
            }
        }
        return sum;
    }

    private long netOfCell(int batch, int cell) {
        long sum = 0;
        for (int i = 0; i < sizes[batch]; i++) {
            int slot = slotOf(batch, i);
            if (entryCells[slot] == cell) {
                sum += entryAmounts[slot];
            }
        }
        return sum;
    }

    private long sumOfAllLots(int account) {
        long sum = 0;
        for (int lot = 0; lot < LOTS; lot++) {
            sum += stocks[cellOf(account, lot)];
        }
        return sum;
    }

    private static int cellOf(int account, int lot) {
        return account * LOTS + lot;
    }

    private static int slotOf(int batch, int i) {
        return batch * MAX_ENTRIES + i;
    }

    private long freeOf(int cell) {
        return stocks[cell] - holds[cell];
    }

    private void clearNet() {
        Arrays.fill(net, 0L);
    }

    private void addToNet(int batch, int sign) {
        for (int i = 0; i < sizes[batch]; i++) {
            int slot = slotOf(batch, i);
            net[entryCells[slot]] += sign * entryAmounts[slot];
        }
    }

    private boolean isNetCovered() {
        for (int cell = FIRST_GUARDED_CELL; cell < CELLS; cell++) {
            if (freeOf(cell) + net[cell] < 0) {
                return false;
            }
        }
        return true;
    }

    private void changeHolds(int batch, int sign) {
        clearNet();
        addToNet(batch, 1);
        for (int cell = FIRST_GUARDED_CELL; cell < CELLS; cell++) {
            if (net[cell] < 0) {
                holds[cell] -= sign * net[cell];
            }
        }
    }

    private int addBatch() {
        int batch = batchCount;
        batchCount++;
        states[batch] = OPEN;
        sizes[batch] = 0;
        days[batch] = NONE;
        reversedBy[batch] = NONE;
        reversalOf[batch] = NONE;
        return batch;
    }

    private void addEntry(int batch, int cell, int amount) {
        int slot = slotOf(batch, sizes[batch]);
        entryCells[slot] = cell;
        entryAmounts[slot] = amount;
        sizes[batch]++;
    }

    private void postEntries(int batch, int day) {
        for (int i = 0; i < sizes[batch]; i++) {
            int slot = slotOf(batch, i);
            stocks[entryCells[slot]] += entryAmounts[slot];
        }
        states[batch] = POSTED;
        days[batch] = day;
        postedOrder[postedCount] = batch;
        postedCount++;
    }

    private int postReversal(int batch, int day) {
        int reversal = addBatch();
        for (int i = 0; i < sizes[batch]; i++) {
            int slot = slotOf(batch, i);
            addEntry(reversal, entryCells[slot], -entryAmounts[slot]);
        }
        postEntries(reversal, day);
        states[batch] = REVERSED;
        reversedBy[batch] = reversal;
        reversalOf[reversal] = batch;
        return reversal;
    }

    private boolean isUndoable(int batch, int day) {
        return states[batch] == POSTED && days[batch] == day && reversalOf[batch] == NONE;
    }

    private int countUndoable(int day) {
        int many = 0;
        for (int batch = 0; batch < batchCount; batch++) {
            if (isUndoable(batch, day)) {
                many++;
            }
        }
        return many;
    }

    // Tries all reversals on the net alone, so that a refused undo has changed nothing.
    private boolean isEnoughFreeToUndo(int day) {
        clearNet();
        for (int p = postedCount - 1; p >= 0; p--) {
            if (isUndoable(postedOrder[p], day)) {
                addToNet(postedOrder[p], -1);
                if (!isNetCovered()) {
                    return false;
                }
            }
        }
        return true;
    }

    private int findPostedSlot(int account, int i) {
        int before = 0;
        for (int p = 0; p < postedCount; p++) {
            int batch = postedOrder[p];
            for (int k = 0; k < sizes[batch]; k++) {
                int slot = slotOf(batch, k);
                if (entryCells[slot] / LOTS == account) {
                    if (before == i) {
                        return slot;
                    }
                    before++;
                }
            }
        }
        return NONE;
    }

    private int countPostedEntries() {
        int many = 0;
        for (int p = 0; p < postedCount; p++) {
            many += sizes[postedOrder[p]];
        }
        return many;
    }

    private int countHeld() {
        int many = 0;
        for (int batch = 0; batch < batchCount; batch++) {
            if (states[batch] == HELD) {
                many++;
            }
        }
        return many;
    }
}
