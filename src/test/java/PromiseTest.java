import java.util.NoSuchElementException;

/** For each promise of the document: ordinary inputs, the edges that it names, wrong inputs. */
public final class PromiseTest {
    private static final Class<NoSuchElementException> NONE_SUCH = NoSuchElementException.class;
    private static final Class<IllegalArgumentException> RANGE = IllegalArgumentException.class;
    private static final Class<IllegalStateException> STATE = IllegalStateException.class;
    private static final Class<UnsupportedOperationException> ROOM = UnsupportedOperationException.class;
    private static final int MIN = Integer.MIN_VALUE;
    private static final int MAX = Integer.MAX_VALUE;

    private static final Checks checks = new Checks();

    public static void main(String[] args) {
        newObject();
        batch();
        entry();
        entryRefusals();
        hold();
        holdRefusals();
        free();
        drop();
        post();
        postOrderAndNet();
        postRefusals();
        reverse();
        reverseRefusals();
        undo();
        undoOrder();
        undoRefusals();
        undoRoom();
        close();
        carry();
        stock();
        upTo();
        available();
        at();
        row();
        told();
        packed();
        count();
        allRoomUsed();
        checks.end("PromiseTest");
    }

    private static void due(String what, long got, long want) {
        checks.due(what, got, want);
    }

    private static void refused(String what, Class<? extends Exception> want, Checks.Step step) {
        checks.refused(what, want, step);
    }

    private static void newObject() {
        MoveRows x = new MoveRows();
        due("1 batches", x.count(0), 0);
        due("1 entries", x.count(1), 0);
        due("1 held", x.count(2), 0);
        due("1 closed", x.count(3), 0);
        for (int account = 0; account <= 15; account++) {
            for (int lot = 0; lot <= 7; lot++) {
                due("1 stock", x.stock(account, lot), 0);
                due("1 available", x.available(account, lot), 0);
            }
        }
        refused("1 no batch", NONE_SUCH, () -> x.told(0, 0));
        MoveRows y = new MoveRows();
        Moves.posted(y, 0, 1, 0, 5, 0);
        due("1 objects are apart", x.stock(1, 0), 0);
        due("1 day 0 is open", y.stock(1, 0), 5);
    }

    private static void batch() {
        MoveRows x = new MoveRows();
        for (int b = 0; b < 40; b++) {
            due("2 batch", x.batch(), b);
            due("2 is open", x.told(b, 0), Moves.OPEN);
            due("2 is empty", x.told(b, 1), 0);
        }
        refused("2 forty", ROOM, x::batch);
        due("2 still forty", x.count(0), 40);
        x.drop(7);
        refused("2 a dropped one keeps its place", ROOM, x::batch);
    }

    private static void entry() {
        MoveRows x = new MoveRows();
        x.batch();
        x.batch();
        due("3 first", x.entry(1, 0, 0, 1000000), 1);
        due("3 second", x.entry(1, 15, 7, -1000000), 2);
        due("3 the same again", x.entry(1, 15, 7, -1000000), 3);
        due("3 the other is empty", x.told(0, 1), 0);
        due("3 no stock yet", x.stock(15, 7), 0);
        due("3 not posted", x.count(1), 0);
        for (int i = 4; i <= 8; i++) {
            due("3 more", x.entry(1, 1, 1, i), i);
        }
        refused("3 eight", ROOM, () -> x.entry(1, 1, 1, 1));
        due("3 still eight", x.told(1, 1), 8);
        due("3 the other has room", x.entry(0, 1, 1, 1), 1);
    }

    private static void entryRefusals() {
        MoveRows x = new MoveRows();
        refused("3 no batch before range", NONE_SUCH, () -> x.entry(0, 16, 8, 0));
        int b = Moves.open(x, 0, 1, 0, 1);
        for (int bad : new int[] {-1, 1, 40, MIN, MAX}) {
            refused("3 batch", NONE_SUCH, () -> x.entry(bad, 0, 0, 1));
        }
        for (int bad : new int[] {-1, 16, MIN, MAX}) {
            refused("3 account", RANGE, () -> x.entry(b, bad, 0, 1));
        }
        for (int bad : new int[] {-1, 8, MIN, MAX}) {
            refused("3 lot", RANGE, () -> x.entry(b, 0, bad, 1));
        }
        for (int bad : new int[] {0, 1000001, -1000001, MIN, MAX}) {
            refused("3 amount", RANGE, () -> x.entry(b, 0, 0, bad));
        }
        due("3 nothing came", x.told(b, 1), 2);
        x.hold(b);
        refused("3 held", STATE, () -> x.entry(b, 0, 0, 1));
        refused("3 range before state", RANGE, () -> x.entry(b, 0, 0, 0));
        x.post(b, 0);
        refused("3 posted", STATE, () -> x.entry(b, 0, 0, 1));
        x.reverse(b, 0);
        refused("3 reversed", STATE, () -> x.entry(b, 0, 0, 1));
        refused("3 reversing", STATE, () -> x.entry(1, 0, 0, 1));
        int full = x.batch();
        for (int i = 0; i < 8; i++) {
            x.entry(full, 0, 0, 1);
        }
        refused("3 range before room", RANGE, () -> x.entry(full, 0, 0, 0));
        x.drop(full);
        refused("3 state before room", STATE, () -> x.entry(full, 0, 0, 1));
    }

    private static void hold() {
        MoveRows x = new MoveRows();
        Moves.posted(x, 0, 3, 2, 10, 0);
        int b = x.batch();
        x.entry(b, 3, 2, -9);
        x.entry(b, 3, 2, 2);
        x.entry(b, 12, 2, 7);
        x.hold(b);
        due("4 held", x.told(b, 0), Moves.HELD);
        due("4 the net is held", x.available(3, 2), 3);
        due("4 what comes is not free yet", x.available(12, 2), 0);
        due("4 stock stays", x.stock(3, 2), 10);
        due("4 count", x.count(2), 1);
        int c = Moves.open(x, 3, 4, 2, 3);
        x.hold(c);
        due("4 all is held", x.available(3, 2), 0);
        due("4 two held", x.count(2), 2);
        int d = Moves.open(x, 0, 5, 6, 1000000);
        x.hold(d);
        due("4 outside holds nothing", x.available(0, 6), 0);
        due("4 never posted", x.told(b, 2), -1);
        int e = Moves.open(x, 7, 7, 2, 5);
        x.hold(e);
        due("4 a net of nothing holds nothing", x.available(7, 2), 0);
    }

    private static void holdRefusals() {
        MoveRows x = new MoveRows();
        refused("4 no batch", NONE_SUCH, () -> x.hold(0));
        int empty = x.batch();
        refused("4 negative", NONE_SUCH, () -> x.hold(-1));
        refused("4 one more", NONE_SUCH, () -> x.hold(1));
        refused("4 empty", STATE, () -> x.hold(empty));
        x.entry(empty, 1, 0, 5);
        x.entry(empty, 2, 1, -5);
        refused("4 each lot for itself", STATE, () -> x.hold(empty));
        int b = Moves.open(x, 1, 2, 0, 5);
        refused("4 nothing free", ROOM, () -> x.hold(b));
        due("4 stays open", x.told(b, 0), Moves.OPEN);
        Moves.posted(x, 0, 1, 0, 4, 0);
        refused("4 one too few", ROOM, () -> x.hold(b));
        Moves.posted(x, 0, 1, 1, 50, 0);
        refused("4 another lot is no help", ROOM, () -> x.hold(b));
        Moves.posted(x, 0, 1, 0, 1, 0);
        x.hold(b);
        refused("4 held already", STATE, () -> x.hold(b));
        due("4 held once", x.available(1, 0), 0);
        int c = Moves.open(x, 1, 2, 0, 1);
        refused("4 the rest is held", ROOM, () -> x.hold(c));
        x.drop(c);
        refused("4 dropped", STATE, () -> x.hold(c));
        x.post(b, 0);
        refused("4 posted", STATE, () -> x.hold(b));
    }

    private static void free() {
        MoveRows x = new MoveRows();
        refused("5 no batch", NONE_SUCH, () -> x.free(0));
        Moves.posted(x, 0, 1, 0, 5, 0);
        int b = Moves.open(x, 1, 2, 0, 5);
        refused("5 open", STATE, () -> x.free(b));
        refused("5 negative", NONE_SUCH, () -> x.free(-1));
        x.hold(b);
        x.free(b);
        due("5 open again", x.told(b, 0), Moves.OPEN);
        due("5 free again", x.available(1, 0), 5);
        due("5 none held", x.count(2), 0);
        due("5 takes entries", x.entry(b, 0, 0, 1), 3);
        refused("5 twice", STATE, () -> x.free(b));
        refused("5 posted", STATE, () -> x.free(0));
        x.drop(b);
        refused("5 dropped", STATE, () -> x.free(b));
    }

    private static void drop() {
        MoveRows x = new MoveRows();
        refused("6 no batch", NONE_SUCH, () -> x.drop(0));
        Moves.posted(x, 0, 1, 0, 5, 0);
        int b = Moves.open(x, 1, 2, 0, 5);
        refused("6 one more", NONE_SUCH, () -> x.drop(2));
        x.hold(b);
        x.drop(b);
        due("6 dropped", x.told(b, 0), Moves.DROPPED);
        due("6 free again", x.available(1, 0), 5);
        due("6 none held", x.count(2), 0);
        due("6 entries stay", x.told(b, 1), 2);
        due("6 entry stays", x.packed(b, 1), 5 * 128 + 2 * 8);
        refused("6 twice", STATE, () -> x.drop(b));
        refused("6 posted", STATE, () -> x.drop(0));
        int c = x.batch();
        x.drop(c);
        due("6 an open one", x.told(c, 0), Moves.DROPPED);
        due("6 free stays", x.available(1, 0), 5);
        x.reverse(0, 0);
        refused("6 reversed", STATE, () -> x.drop(0));
        refused("6 no batch again", NONE_SUCH, () -> x.drop(-1));
    }

    private static void post() {
        MoveRows x = new MoveRows();
        int a = Moves.posted(x, 0, 1, 0, 5, 1000);
        due("7 posted", x.told(a, 0), Moves.POSTED);
        due("7 day", x.told(a, 2), 1000);
        due("7 stock", x.stock(1, 0), 5);
        due("7 outside", x.stock(0, 0), -5);
        int b = Moves.open(x, 1, 2, 0, 5);
        x.hold(b);
        x.post(b, 0);
        due("7 its own hold is free for it", x.stock(2, 0), 5);
        due("7 the hold is gone", x.available(1, 0), 0);
        due("7 none held", x.count(2), 0);
        due("7 an earlier day", x.told(b, 2), 0);
        int c = Moves.open(x, 2, 3, 0, 3);
        x.hold(c);
        int d = Moves.open(x, 2, 4, 0, 3);
        refused("7 another's hold is not free", ROOM, () -> x.post(d, 0));
        due("7 stays open", x.told(d, 0), Moves.OPEN);
        due("7 no day", x.told(d, 2), -1);
        due("7 no entries", x.count(1), 4);
        x.free(c);
        x.post(d, 0);
        refused("7 too few now", ROOM, () -> x.post(c, 0));
    }

    private static void postOrderAndNet() {
        MoveRows x = new MoveRows();
        int a = x.batch();
        x.entry(a, 1, 0, -8);
        x.entry(a, 0, 0, -2);
        x.entry(a, 1, 0, 10);
        x.post(a, 3);
        due("7 the net counts, not its entries", x.stock(1, 0), 2);
        due("7 in their order, first", x.row(1, 0, 2), -8);
        due("7 in their order, second", x.row(1, 1, 2), 10);
        int b = x.batch();
        x.entry(b, 1, 0, -2);
        x.entry(b, 1, 0, -1);
        x.entry(b, 2, 0, 3);
        refused("7 the net is too much", ROOM, () -> x.post(b, 3));
        int c = x.batch();
        x.entry(c, 0, 5, 1000000);
        x.entry(c, 15, 5, -1000000);
        refused("7 a container is no outside", ROOM, () -> x.post(c, 3));
        x.entry(c, 0, 5, -2000);
        refused("7 not sound", STATE, () -> x.post(c, 3));
        x.entry(c, 15, 5, 2000);
        refused("7 still too much", ROOM, () -> x.post(c, 3));
        int d = Moves.open(x, 1, 0, 0, 2);
        x.post(d, 3);
        due("7 all of it may go", x.stock(1, 0), 0);
        due("7 outside has it", x.stock(0, 0), 0);
    }

    private static void postRefusals() {
        MoveRows x = new MoveRows();
        refused("7 no batch before range", NONE_SUCH, () -> x.post(0, -1));
        int b = x.batch();
        for (int bad : new int[] {-1, 1001, MIN, MAX}) {
            refused("7 day", RANGE, () -> x.post(b, bad));
        }
        refused("7 empty", STATE, () -> x.post(b, 0));
        x.entry(b, 1, 0, -5);
        refused("7 state before what is free", STATE, () -> x.post(b, 0));
        x.entry(b, 2, 0, 5);
        refused("7 nothing free", ROOM, () -> x.post(b, 0));
        x.close(4);
        refused("7 closed before what is free", STATE, () -> x.post(b, 4));
        refused("7 the day after is open", ROOM, () -> x.post(b, 5));
        int c = Moves.open(x, 0, 1, 0, 5);
        refused("7 closed", STATE, () -> x.post(c, 0));
        x.post(c, 5);
        refused("7 twice", STATE, () -> x.post(c, 5));
        refused("7 range before state", RANGE, () -> x.post(c, 1001));
        x.hold(b);
        refused("7 closed for a held one", STATE, () -> x.post(b, 4));
        due("7 its hold stays", x.available(1, 0), 0);
        due("7 it stays held", x.told(b, 0), Moves.HELD);
        x.drop(b);
        refused("7 dropped", STATE, () -> x.post(b, 5));
        x.reverse(c, 5);
        refused("7 reversed", STATE, () -> x.post(c, 5));
    }

    private static void reverse() {
        MoveRows x = new MoveRows();
        int a = x.batch();
        x.entry(a, 0, 1, -7);
        x.entry(a, 4, 1, 3);
        x.entry(a, 4, 1, 4);
        x.post(a, 10);
        int b = x.reverse(a, 10);
        due("8 number", b, 1);
        due("8 reversed", x.told(a, 0), Moves.REVERSED);
        due("8 its day stays", x.told(a, 2), 10);
        due("8 reversed by", x.told(a, 3), b);
        due("8 reverses nothing", x.told(a, 4), -1);
        due("8 the other is posted", x.told(b, 0), Moves.POSTED);
        due("8 its entries", x.told(b, 1), 3);
        due("8 its day", x.told(b, 2), 10);
        due("8 not reversed", x.told(b, 3), -1);
        due("8 reverses", x.told(b, 4), a);
        due("8 first", x.packed(b, 0), 7 * 128 + 1);
        due("8 second", x.packed(b, 1), -3 * 128 + 33);
        due("8 third", x.packed(b, 2), -4 * 128 + 33);
        due("8 stock", x.stock(4, 1), 0);
        due("8 outside", x.stock(0, 1), 0);
        due("8 entries posted", x.count(1), 6);
        int c = x.reverse(b, 12);
        due("8 a reversing one too", x.told(b, 0), Moves.REVERSED);
        due("8 the first stays reversed", x.told(a, 0), Moves.REVERSED);
        due("8 by the same", x.told(a, 3), b);
        due("8 the third reverses the second", x.told(c, 4), b);
        due("8 stock is back", x.stock(4, 1), 7);
        due("8 and again", x.reverse(c, 1000), 3);
    }

    private static void reverseRefusals() {
        MoveRows x = new MoveRows();
        refused("8 no batch before range", NONE_SUCH, () -> x.reverse(0, 1001));
        int a = Moves.open(x, 0, 4, 1, 7);
        refused("8 open", STATE, () -> x.reverse(a, 0));
        x.hold(a);
        refused("8 held", STATE, () -> x.reverse(a, 0));
        x.post(a, 10);
        for (int bad : new int[] {-1, 1001, MIN, MAX}) {
            refused("8 day", RANGE, () -> x.reverse(a, bad));
        }
        refused("8 before its own", STATE, () -> x.reverse(a, 9));
        x.close(11);
        refused("8 closed", STATE, () -> x.reverse(a, 11));
        int b = Moves.open(x, 4, 5, 1, 1);
        x.hold(b);
        refused("8 one is held", ROOM, () -> x.reverse(a, 12));
        refused("8 state before what is free", STATE, () -> x.reverse(a, 9));
        due("8 stays posted", x.told(a, 0), Moves.POSTED);
        due("8 no reversal", x.told(a, 3), -1);
        due("8 no batch more", x.count(0), 2);
        due("8 no entry more", x.count(1), 2);
        x.drop(b);
        refused("8 dropped", STATE, () -> x.reverse(b, 12));
        for (int i = 2; i < 40; i++) {
            x.batch();
        }
        refused("8 no room", ROOM, () -> x.reverse(a, 12));
        refused("8 state before room", STATE, () -> x.reverse(a, 11));
        due("8 stock stays", x.stock(4, 1), 7);

        MoveRows y = new MoveRows();
        Moves.posted(y, 0, 4, 1, 7, 0);
        for (int i = 1; i < 39; i++) {
            y.batch();
        }
        due("8 the last room", y.reverse(0, 0), 39);
        refused("8 twice", STATE, () -> y.reverse(0, 0));
    }

    private static void undo() {
        MoveRows x = new MoveRows();
        due("9 nothing there", x.undo(0), 0);
        int a = Moves.posted(x, 0, 1, 0, 9, 2);
        int other = Moves.posted(x, 0, 1, 0, 1, 3);
        int b = Moves.posted(x, 1, 2, 0, 4, 2);
        int early = Moves.posted(x, 0, 1, 0, 1, 1);
        int gone = Moves.posted(x, 0, 6, 6, 6, 2);
        int reversal = x.reverse(gone, 2);
        int open = Moves.open(x, 0, 1, 0, 1);
        int held = Moves.open(x, 0, 1, 0, 1);
        x.hold(held);
        due("9 two", x.undo(2), 2);
        due("9 last first", x.told(b, 3), 8);
        due("9 first last", x.told(a, 3), 9);
        due("9 their day", x.told(9, 2), 2);
        due("9 they reverse", x.told(8, 4), b);
        due("9 they are posted", x.told(9, 0), Moves.POSTED);
        due("9 reversed", x.told(a, 0), Moves.REVERSED);
        due("9 another day stays", x.told(other, 0), Moves.POSTED);
        due("9 an earlier day stays", x.told(early, 0), Moves.POSTED);
        due("9 a reversing one stays", x.told(reversal, 0), Moves.POSTED);
        due("9 an open one stays", x.told(open, 0), Moves.OPEN);
        due("9 a held one stays", x.told(held, 0), Moves.HELD);
        due("9 stock", x.stock(1, 0), 2);
        due("9 none again", x.undo(2), 0);
        due("9 ten batches", x.count(0), 10);
        int again = x.reverse(reversal, 2);
        due("9 one that reverses a reversing one is one too", x.undo(2), 0);
        due("9 it stays", x.told(again, 0), Moves.POSTED);
    }

    private static void undoOrder() {
        MoveRows x = new MoveRows();
        int second = Moves.open(x, 1, 2, 0, 5);
        int first = Moves.open(x, 0, 1, 0, 5);
        x.post(first, 7);
        x.post(second, 7);
        due("9 by posting, not by number", x.undo(7), 2);
        due("9 posted last", x.told(second, 3), 2);
        due("9 posted first", x.told(first, 3), 3);

        // Only the other order could work here: the later batch gave what has left since.
        MoveRows y = new MoveRows();
        Moves.posted(y, 0, 1, 0, 10, 0);
        Moves.posted(y, 1, 0, 0, 10, 5);
        Moves.posted(y, 0, 1, 0, 10, 5);
        Moves.posted(y, 1, 2, 0, 10, 6);
        refused("9 the last comes first", ROOM, () -> y.undo(5));
        due("9 none is", y.told(1, 0), Moves.POSTED);
        due("9 no batch more", y.count(0), 4);

        // The later reversal gives back what the earlier batch's reversal takes.
        MoveRows z = new MoveRows();
        Moves.posted(z, 0, 1, 0, 10, 5);
        Moves.posted(z, 1, 2, 0, 10, 5);
        due("9 one makes room for the next", z.undo(5), 2);
        due("9 all is back", z.stock(0, 0), 0);
    }

    private static void undoRefusals() {
        MoveRows x = new MoveRows();
        for (int bad : new int[] {-1, 1001, MIN, MAX}) {
            refused("9 day", RANGE, () -> x.undo(bad));
        }
        Moves.posted(x, 0, 1, 0, 5, 4);
        Moves.posted(x, 0, 2, 0, 5, 4);
        int held = Moves.open(x, 1, 3, 0, 1);
        x.hold(held);
        refused("9 the second can't be", ROOM, () -> x.undo(4));
        due("9 the first is not", x.told(1, 0), Moves.POSTED);
        due("9 not reversed by", x.told(1, 3), -1);
        due("9 stock stays", x.stock(2, 0), 5);
        due("9 entries stay", x.count(1), 4);
        due("9 batches stay", x.count(0), 3);
        due("9 free stays", x.available(1, 0), 4);
        x.close(4);
        refused("9 closed comes first", STATE, () -> x.undo(4));
        refused("9 closed and empty", STATE, () -> x.undo(0));
        refused("9 range before state", RANGE, () -> x.undo(-1));
        due("9 the day after", x.undo(5), 0);
    }

    private static void undoRoom() {
        MoveRows x = new MoveRows();
        Moves.posted(x, 0, 1, 0, 5, 4);
        Moves.posted(x, 0, 1, 0, 5, 4);
        for (int i = 2; i < 39; i++) {
            x.batch();
        }
        refused("9 room for one", ROOM, () -> x.undo(4));
        due("9 none is", x.told(1, 0), Moves.POSTED);
        due("9 thirty-nine", x.count(0), 39);
        x.batch();
        due("9 an empty day needs no room", x.undo(5), 0);

        MoveRows y = new MoveRows();
        for (int i = 0; i < 20; i++) {
            Moves.posted(y, 0, 1, i % 8, 1000000, 1000);
        }
        due("9 forty in all", y.undo(1000), 20);
        due("9 all room is used", y.count(0), 40);
        due("9 the first was the last", y.told(0, 3), 39);
    }

    private static void close() {
        MoveRows x = new MoveRows();
        for (int bad : new int[] {-1, 1001, MIN, MAX}) {
            refused("10 day", RANGE, () -> x.close(bad));
        }
        due("10 none closed", x.count(3), 0);
        due("10 day 0", x.close(0), 1);
        due("10 again", x.close(0), 0);
        due("10 three more", x.close(3), 3);
        due("10 before", x.close(2), 0);
        due("10 four", x.count(3), 4);
        int b = Moves.open(x, 0, 1, 0, 1);
        refused("10 closed", STATE, () -> x.post(b, 3));
        x.post(b, 4);
        due("10 all", x.close(1000), 997);
        due("10 a thousand and one", x.count(3), 1001);
        refused("10 the last day", STATE, () -> x.reverse(b, 1000));
    }

    private static void carry() {
        MoveRows x = new MoveRows();
        for (int bad : new int[] {-1, 0, 9, 16, MIN, MAX}) {
            refused("11 container", RANGE, () -> x.carry(bad, 2));
        }
        for (int bad : new int[] {-1, 0, 10, MIN, MAX}) {
            refused("11 place", RANGE, () -> x.carry(10, bad));
        }
        for (int container = 10; container <= 15; container++) {
            int c = container;
            refused("11 all stand at 1", STATE, () -> x.carry(c, 1));
        }
        Moves.posted(x, 0, 15, 0, 3, 0);
        Moves.posted(x, 0, 15, 7, 4, 0);
        Moves.posted(x, 0, 14, 7, 9, 0);
        int held = Moves.open(x, 15, 2, 7, 4);
        x.hold(held);
        due("11 all lots, held or not", x.carry(15, 9), 7);
        due("11 the lot came along", x.at(9, 7), 4);
        due("11 the other did not", x.at(1, 7), 9);
        refused("11 it stands there", STATE, () -> x.carry(15, 9));
        due("11 empty", x.carry(10, 9), 0);
        due("11 and back", x.carry(15, 1), 7);
        due("11 back", x.at(1, 0), 3);
        due("11 stock stays", x.stock(15, 0), 3);
    }

    private static void stock() {
        MoveRows x = new MoveRows();
        for (int bad : new int[] {-1, 16, MIN, MAX}) {
            refused("12 account", RANGE, () -> x.stock(bad, 0));
        }
        for (int bad : new int[] {-1, 8, MIN, MAX}) {
            refused("12 lot", RANGE, () -> x.stock(0, bad));
        }
        for (int i = 0; i < 20; i++) {
            Moves.posted(x, 0, 15, 7, 1000000, i);
        }
        due("12 a container's", x.stock(15, 7), 20000000);
        due("12 outside's", x.stock(0, 7), -20000000);
        due("12 another lot", x.stock(15, 6), 0);
        due("12 another account", x.stock(14, 7), 0);
        Moves.open(x, 15, 1, 7, 5);
        due("12 only what is posted", x.stock(15, 7), 20000000);
    }

    private static void upTo() {
        MoveRows x = new MoveRows();
        for (int bad : new int[] {-1, 16, MIN, MAX}) {
            refused("13 account", RANGE, () -> x.upTo(bad, 0, 0));
        }
        for (int bad : new int[] {-1, 8, MIN, MAX}) {
            refused("13 lot", RANGE, () -> x.upTo(0, bad, 0));
        }
        for (int bad : new int[] {-1, 1001, MIN, MAX}) {
            refused("13 day", RANGE, () -> x.upTo(0, 0, bad));
        }
        Moves.posted(x, 0, 1, 0, 100, 500);
        int b = Moves.posted(x, 1, 2, 0, 30, 0);
        Moves.posted(x, 0, 1, 1, 7, 0);
        due("13 below nothing on an earlier day", x.upTo(1, 0, 0), -30);
        due("13 the day before", x.upTo(1, 0, 499), -30);
        due("13 the day itself", x.upTo(1, 0, 500), 70);
        due("13 the last day", x.upTo(1, 0, 1000), 70);
        due("13 outside", x.upTo(0, 0, 1000), -100);
        x.reverse(b, 1000);
        due("13 a reversed one counts at its day", x.upTo(1, 0, 999), 70);
        due("13 its reversal at its own", x.upTo(1, 0, 1000), 100);
    }

    private static void available() {
        MoveRows x = new MoveRows();
        for (int bad : new int[] {-1, 16, MIN, MAX}) {
            refused("14 account", RANGE, () -> x.available(bad, 0));
        }
        for (int bad : new int[] {-1, 8, MIN, MAX}) {
            refused("14 lot", RANGE, () -> x.available(0, bad));
        }
        Moves.posted(x, 0, 1, 0, 10, 0);
        int b = Moves.open(x, 1, 0, 0, 4);
        due("14 an open one holds nothing", x.available(1, 0), 10);
        x.hold(b);
        due("14 less what is held", x.available(1, 0), 6);
        due("14 outside's stock", x.available(0, 0), -10);
        int c = Moves.open(x, 0, 1, 0, 4);
        x.hold(c);
        due("14 outside's stock with a hold", x.available(0, 0), -10);
        due("14 what is to come is not there", x.available(1, 0), 6);
        x.post(b, 0);
        due("14 posted", x.available(1, 0), 6);
        x.post(c, 0);
        due("14 came", x.available(1, 0), 10);
    }

    private static void at() {
        MoveRows x = new MoveRows();
        for (int bad : new int[] {-1, 0, 10, MIN, MAX}) {
            refused("15 place", RANGE, () -> x.at(bad, 0));
        }
        for (int bad : new int[] {-1, 8, MIN, MAX}) {
            refused("15 lot", RANGE, () -> x.at(1, bad));
        }
        Moves.posted(x, 0, 1, 7, 1, 0);
        Moves.posted(x, 0, 9, 7, 20, 0);
        Moves.posted(x, 0, 10, 7, 300, 0);
        Moves.posted(x, 0, 15, 7, 4000, 0);
        Moves.posted(x, 0, 15, 6, 50000, 0);
        due("15 with its containers", x.at(1, 7), 4301);
        due("15 alone", x.at(9, 7), 20);
        x.carry(15, 9);
        due("15 one went", x.at(1, 7), 301);
        due("15 one came", x.at(9, 7), 4020);
        due("15 the other lot", x.at(9, 6), 50000);
        due("15 nothing", x.at(5, 7), 0);
        x.hold(Moves.open(x, 15, 3, 7, 4000));
        due("15 the stock, held or not", x.at(9, 7), 4020);
    }

    private static void row() {
        MoveRows x = new MoveRows();
        int b = Moves.open(x, 0, 1, 3, 6);
        int a = x.batch();
        x.entry(a, 1, 2, 5);
        x.entry(a, 0, 2, -5);
        x.entry(a, 1, 4, 9);
        x.entry(a, 0, 4, -9);
        refused("16 nothing posted", NONE_SUCH, () -> x.row(1, 0, 0));
        x.post(a, 20);
        x.post(b, 10);
        int r = x.reverse(a, 1000);
        int[][] due = {{a, 2, 5, 20}, {a, 4, 9, 20}, {b, 3, 6, 10}, {r, 2, -5, 1000}, {r, 4, -9, 1000}};
        for (int i = 0; i < due.length; i++) {
            for (int what = 0; what < 4; what++) {
                due("16 row " + i + " " + what, x.row(1, i, what), due[i][what]);
            }
        }
        due("16 outside", x.row(0, 2, 2), -6);
        for (int bad : new int[] {-1, 5, MIN, MAX}) {
            refused("16 i before what", NONE_SUCH, () -> x.row(1, bad, 4));
        }
        for (int bad : new int[] {-1, 16, MIN, MAX}) {
            refused("16 account before i", RANGE, () -> x.row(bad, -1, 0));
        }
        for (int bad : new int[] {-1, 4, MIN, MAX}) {
            refused("16 what", RANGE, () -> x.row(1, 4, bad));
        }
    }

    private static void told() {
        MoveRows x = new MoveRows();
        refused("17 batch before what", NONE_SUCH, () -> x.told(0, 5));
        int b = x.batch();
        int[] due = {Moves.OPEN, 0, -1, -1, -1};
        for (int what = 0; what < 5; what++) {
            due("17 new " + what, x.told(b, what), due[what]);
        }
        for (int bad : new int[] {-1, 5, MIN, MAX}) {
            refused("17 what", RANGE, () -> x.told(b, bad));
        }
        for (int bad : new int[] {-1, 1, 40, MIN, MAX}) {
            refused("17 batch", NONE_SUCH, () -> x.told(bad, 0));
        }
        x.drop(b);
        due("17 dropped", x.told(b, 0), Moves.DROPPED);
        due("17 a dropped one has no day", x.told(b, 2), -1);
        int c = Moves.posted(x, 0, 1, 0, 1, 0);
        due("17 day 0", x.told(c, 2), 0);
        due("17 two entries", x.told(c, 1), 2);
        int r = x.reverse(c, 8);
        due("17 reversed by", x.told(c, 3), r);
        due("17 reverses", x.told(r, 4), c);
        due("17 the reversal's day", x.told(r, 2), 8);
    }

    private static void packed() {
        MoveRows x = new MoveRows();
        refused("18 no batch", NONE_SUCH, () -> x.packed(0, 0));
        int b = x.batch();
        refused("18 no entry", NONE_SUCH, () -> x.packed(b, 0));
        x.entry(b, 15, 7, 1000000);
        x.entry(b, 0, 0, -1000000);
        x.entry(b, 10, 1, -20);
        due("18 greatest", x.packed(b, 0), 128000127);
        due("18 least", x.packed(b, 1), -128000000);
        due("18 below nothing", x.packed(b, 2), -2560 + 81);
        for (int bad : new int[] {-1, 3, 8, MIN, MAX}) {
            refused("18 entry", NONE_SUCH, () -> x.packed(b, bad));
        }
        int c = x.batch();
        x.entry(c, 1, 1, 1);
        due("18 of its own batch", x.packed(c, 0), 137);
        for (int bad : new int[] {-1, 2, 40, MIN, MAX}) {
            refused("18 batch", NONE_SUCH, () -> x.packed(bad, 0));
        }
    }

    private static void count() {
        MoveRows x = new MoveRows();
        for (int bad : new int[] {-1, 4, MIN, MAX}) {
            due("19 another what", x.count(bad), -1);
        }
        int a = Moves.posted(x, 0, 1, 0, 5, 0);
        int b = Moves.open(x, 1, 2, 0, 1);
        int c = Moves.open(x, 1, 2, 0, 1);
        x.hold(b);
        x.hold(c);
        due("19 batches", x.count(0), 3);
        due("19 entries", x.count(1), 2);
        due("19 held", x.count(2), 2);
        due("19 closed", x.count(3), 0);
        x.post(b, 1);
        x.free(c);
        x.drop(c);
        int r = x.reverse(b, 1);
        x.close(0);
        due("19 batches, dropped and reversing ones too", x.count(0), 4);
        due("19 entries, reversed and reversing ones too", x.count(1), 6);
        due("19 none held", x.count(2), 0);
        due("19 one closed", x.count(3), 1);
        due("19 numbers", a + 10 * b + 100 * r, 310);
    }

    /** Forty batches of eight entries, held and posted: the last entry of all is read and written as the first. */
    private static void allRoomUsed() {
        MoveRows x = new MoveRows();
        for (int b = 0; b < 40; b++) {
            x.batch();
            for (int i = 0; i < 4; i++) {
                x.entry(b, 0, 7, -1000000);
                x.entry(b, 15, 7, 1000000);
            }
        }
        x.hold(0);
        x.hold(39);
        due("19 the first and the last are held", x.count(2), 2);
        for (int b = 0; b < 40; b++) {
            x.post(b, b);
        }
        due("12 the most", x.stock(15, 7), 160000000);
        due("12 the least", x.stock(0, 7), -160000000);
        due("13 half of it", x.upTo(15, 7, 19), 80000000);
        due("13 all of it", x.upTo(15, 7, 39), 160000000);
        due("16 the last row", x.row(15, 159, 0), 39);
        refused("16 no row more", NONE_SUCH, () -> x.row(15, 160, 0));
        due("18 the last entry", x.packed(39, 7), 128000127);
        due("19 all entries", x.count(1), 320);
        refused("9 no room for one", ROOM, () -> x.undo(39));
        refused("8 no room for one", ROOM, () -> x.reverse(39, 39));
        due("11 the most", x.carry(15, 2), 160000000);
    }
}
