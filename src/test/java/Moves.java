/** Batches and numbers that the tests need again and again. */
final class Moves {
    static final int OPEN = 0;
    static final int HELD = 1;
    static final int POSTED = 2;
    static final int REVERSED = 3;
    static final int DROPPED = 4;

    private Moves() { }

    /** An open batch that moves n of a lot between two accounts. */
    static int open(MoveRows x, int from, int to, int lot, int n) {
        int b = x.batch();
        x.entry(b, from, lot, -n);
        x.entry(b, to, lot, n);
        return b;
    }

    static int held(MoveRows x, int from, int to, int lot, int n) {
        int b = open(x, from, to, lot, n);
        x.hold(b);
        return b;
    }

    static int posted(MoveRows x, int from, int to, int lot, int n, int day) {
        int b = open(x, from, to, lot, n);
        x.post(b, day);
        return b;
    }

    static int dropped(MoveRows x, int from, int to, int lot, int n) {
        int b = open(x, from, to, lot, n);
        x.drop(b);
        return b;
    }

    /** A batch that was posted and reversed at a day; the reversing one has the next number. */
    static int reversed(MoveRows x, int from, int to, int lot, int n, int day) {
        int b = posted(x, from, to, lot, n, day);
        x.reverse(b, day);
        return b;
    }

    /** An open batch with as many entries, all alike. */
    static int filled(MoveRows x, int entries) {
        int b = x.batch();
        for (int i = 0; i < entries; i++) {
            x.entry(b, 0, 0, 1);
        }
        return b;
    }

    static void batchesUpTo(MoveRows x, int many) {
        while (x.count(0) < many) {
            x.batch();
        }
    }

    /** The numbers next to a range, and those that are farthest from it. */
    static int[] outside(int low, int high) {
        return new int[] {Integer.MIN_VALUE, low - 1, high + 1, Integer.MAX_VALUE};
    }
}
