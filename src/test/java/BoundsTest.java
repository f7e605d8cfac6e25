import java.util.NoSuchElementException;

/** Each sentence of the promises 1 to 19 that names a bound, with a test of its own. */
public final class BoundsTest {
    private static final Class<NoSuchElementException> NONE_SUCH = NoSuchElementException.class;
    private static final Class<IllegalArgumentException> RANGE = IllegalArgumentException.class;
    private static final Class<IllegalStateException> STATE = IllegalStateException.class;
    private static final Class<UnsupportedOperationException> ROOM = UnsupportedOperationException.class;

    private static final Checks checks = new Checks();

    public static void main(String[] args) {
        newObjectAndBatch();
        entryToDrop();
        postAndReverse();
        undo();
        closeAndCarry();
        sums();
        rowsAndBatches();
        checks.end("BoundsTest");
    }

    private static void newObjectAndBatch() {
        checks.sentence("1: No batches;", BoundsTest::noBatches);
        checks.sentence("1: no day is closed.", BoundsTest::noDayClosed);
        checks.sentence("2: An open batch: its number.", BoundsTest::openBatch);
        checks.sentence("2: UnsupportedOperationException: there are forty.", BoundsTest::forty);
    }

    private static void entryToDrop() {
        checks.sentence("3: An entry comes to an OPEN batch", BoundsTest::entryToOpen);
        checks.sentence("3: how many it has.", BoundsTest::entryHowMany);
        checks.sentence("4: An OPEN batch becomes HELD, if it is sound", BoundsTest::holdSound);
        checks.sentence("4: and what it holds is free.", BoundsTest::holdFree);
        checks.sentence("4: IllegalStateException: not OPEN, or not sound.", BoundsTest::holdNotOpen);
        checks.sentence("5: A HELD batch becomes OPEN.", BoundsTest::freeHeld);
        checks.sentence("6: An OPEN or HELD batch is DROPPED.", BoundsTest::dropOpenOrHeld);
    }

    private static void postAndReverse() {
        checks.sentence("7: An OPEN or HELD batch is posted.", BoundsTest::postOpenOrHeld);
        checks.sentence("7: IllegalStateException: not so,", BoundsTest::postNotSo);
        checks.sentence("7: not sound,", BoundsTest::postNotSound);
        checks.sentence("7: or the day is closed.", BoundsTest::postClosed);
        checks.sentence("8: A batch is reversed: the new batch's number.", BoundsTest::reverseNumber);
        checks.sentence("8: IllegalStateException: it is not POSTED,", BoundsTest::reverseNotPosted);
        checks.sentence("8: the day is closed", BoundsTest::reverseClosed);
        checks.sentence("8: or before its own.", BoundsTest::reverseBeforeItsOwn);
        checks.sentence("8: (A reversing batch may be reversed, too.)", BoundsTest::reverseReversing);
    }

    private static void undo() {
        checks.sentence("9: All POSTED batches of a day", BoundsTest::undoAllOfDay);
        checks.sentence("9: that are no reversing ones", BoundsTest::undoNoReversing);
        checks.sentence("9: are reversed at it,", BoundsTest::undoAtItsDay);
        checks.sentence("9: the one posted last first", BoundsTest::undoLastFirst);
        checks.sentence("9: how many.", BoundsTest::undoHowMany);
        checks.sentence("9: IllegalStateException: it is closed;", BoundsTest::undoClosed);
        checks.sentence("9: UnsupportedOperationException: one of them can't be", BoundsTest::undoOneCannot);
        checks.sentence("9: (none is, then).", BoundsTest::undoNoneIs);
    }

    private static void closeAndCarry() {
        checks.sentence("10: Days are closed up to this one: how many more.", BoundsTest::closeHowMany);
        checks.sentence("10: IllegalArgumentException.", BoundsTest::closeRange);
        checks.sentence("11: A container stands at another place", BoundsTest::carryPlace);
        checks.sentence("11: the sum of all that is in it.", BoundsTest::carrySum);
        checks.sentence("11: IllegalArgumentException: no such container or place;", BoundsTest::carryRange);
        checks.sentence("11: IllegalStateException: it stands there.", BoundsTest::carryStandsThere);
    }

    private static void sums() {
        checks.sentence("12: The stock of an account and lot.", BoundsTest::stockGreatest);
        checks.sentence("12: IllegalArgumentException.", BoundsTest::stockRange);
        checks.sentence("13: What was posted of it at days up to this one.", BoundsTest::upToDay);
        checks.sentence("13: IllegalArgumentException.", BoundsTest::upToRange);
        checks.sentence("14: What is free of it (OUTSIDE: the stock).", BoundsTest::availableOutside);
        checks.sentence("14: IllegalArgumentException.", BoundsTest::availableRange);
        checks.sentence("15: The stock of a lot at a place, with that of the containers that stand there.",
                BoundsTest::atContainers);
        checks.sentence("15: IllegalArgumentException.", BoundsTest::atRange);
    }

    private static void rowsAndBatches() {
        checks.sentence("16: Of the i-th posted entry of an account, in the order of posting", BoundsTest::rowOrder);
        checks.sentence("16: 0 its batch, 1 lot, 2 amount, 3 day.", BoundsTest::rowWhat);
        checks.sentence("16: NoSuchElementException: there are not so many;", BoundsTest::rowNotSoMany);
        checks.sentence("16: IllegalArgumentException.", BoundsTest::rowRange);
        checks.sentence("17: Of a batch 0 its state, 1 its entries", BoundsTest::toldStateAndEntries);
        checks.sentence("17: 2 its day (-1 if it was never posted)", BoundsTest::toldDay);
        checks.sentence("17: 3 the batch that reversed it (-1)", BoundsTest::toldReversedBy);
        checks.sentence("17: 4 the one that it reverses (-1).", BoundsTest::toldReverses);
        checks.sentence("17: NoSuchElementException, IllegalArgumentException.", BoundsTest::toldRefused);
        checks.sentence("18: the amount times 128, and 8 times the account, and the lot.", BoundsTest::packedNumbers);
        checks.sentence("18: NoSuchElementException: no such batch or entry.", BoundsTest::packedRefused);
        checks.sentence("19: 0 batches", BoundsTest::countBatches);
        checks.sentence("19: 1 entries posted", BoundsTest::countEntries);
        checks.sentence("19: 2 HELD batches", BoundsTest::countHeld);
        checks.sentence("19: 3 days closed", BoundsTest::countClosed);
        checks.sentence("19: -1 for another what.", BoundsTest::countAnother);
    }

    private static void due(String what, long got, long want) {
        checks.due(what, got, want);
    }

    private static void refused(String what, Class<? extends Exception> want, Checks.Step step) {
        checks.refused(what, want, step);
    }

    private static void done(String what, Checks.Step step) {
        checks.done(what, step);
    }

    private static void noBatches() {
        MoveRows x = new MoveRows();
        due("none", x.count(0), 0);
        refused("entry", NONE_SUCH, () -> x.entry(0, 0, 0, 1));
        refused("hold", NONE_SUCH, () -> x.hold(0));
        refused("free", NONE_SUCH, () -> x.free(0));
        refused("drop", NONE_SUCH, () -> x.drop(0));
        refused("post", NONE_SUCH, () -> x.post(0, 0));
        refused("reverse", NONE_SUCH, () -> x.reverse(0, 0));
        refused("told", NONE_SUCH, () -> x.told(0, 0));
        refused("packed", NONE_SUCH, () -> x.packed(0, 0));
        for (int account = 0; account <= 15; account++) {
            int of = account;
            refused("row of " + of, NONE_SUCH, () -> x.row(of, 0, 0));
        }
        due("nothing posted", x.count(1), 0);
        due("nothing held", x.count(2), 0);
        due("nothing to undo", x.undo(0), 0);
        due("the first is 0", x.batch(), 0);
    }

    private static void noDayClosed() {
        MoveRows x = new MoveRows();
        due("none", x.count(3), 0);
        due("day 0 may be undone", x.undo(0), 0);
        done("day 0 may be posted at", () -> Moves.posted(x, 0, 1, 0, 1, 0));
        due("day 0 may be reversed at", x.reverse(0, 0), 1);
        due("day 0 is one more", x.close(0), 1);
    }

    private static void openBatch() {
        MoveRows x = new MoveRows();
        for (int i = 0; i < 40; i++) {
            int b = i;
            due("its number", x.batch(), b);
            due("open", x.told(b, 0), Moves.OPEN);
            due("empty", x.told(b, 1), 0);
            refused("no entry", NONE_SUCH, () -> x.packed(b, 0));
        }
    }

    private static void forty() {
        MoveRows x = new MoveRows();
        Moves.batchesUpTo(x, 39);
        done("thirty-nine", x::batch);
        refused("forty", ROOM, x::batch);
        refused("again", ROOM, x::batch);
        x.drop(39);
        refused("a dropped one makes no room", ROOM, x::batch);
        due("still forty", x.count(0), 40);

        MoveRows y = new MoveRows();
        for (int i = 0; i < 20; i++) {
            Moves.posted(y, 0, 1, 0, 1, 0);
        }
        y.undo(0);
        refused("twenty and those that reverse them", ROOM, y::batch);
    }

    /** One batch of each state, the numbers as in Moves; 5 is the one that reverses 3. */
    private static MoveRows oneOfEachState() {
        MoveRows x = new MoveRows();
        Moves.open(x, 0, 1, 0, 1);
        Moves.held(x, 0, 1, 0, 1);
        Moves.posted(x, 0, 1, 0, 1, 0);
        Moves.posted(x, 0, 1, 0, 1, 0);
        Moves.dropped(x, 0, 1, 0, 1);
        x.reverse(3, 0);
        return x;
    }

    private static void entryToOpen() {
        MoveRows x = oneOfEachState();
        due("to an open one", x.entry(Moves.OPEN, 0, 0, 1), 3);
        refused("to a held one", STATE, () -> x.entry(Moves.HELD, 0, 0, 1));
        refused("to a posted one", STATE, () -> x.entry(Moves.POSTED, 0, 0, 1));
        refused("to a reversed one", STATE, () -> x.entry(Moves.REVERSED, 0, 0, 1));
        refused("to a dropped one", STATE, () -> x.entry(Moves.DROPPED, 0, 0, 1));
        refused("to a reversing one", STATE, () -> x.entry(5, 0, 0, 1));
        refused("to none", NONE_SUCH, () -> x.entry(6, 0, 0, 1));
        for (int bad : Moves.outside(0, 5)) {
            refused("to " + bad, NONE_SUCH, () -> x.entry(bad, 0, 0, 1));
        }
        x.free(Moves.HELD);
        due("to a freed one", x.entry(Moves.HELD, 0, 0, 1), 3);
    }

    private static void entryHowMany() {
        MoveRows x = new MoveRows();
        x.batch();
        x.batch();
        for (int i = 1; i <= 8; i++) {
            due("of the second", x.entry(1, 0, 0, 1), i);
        }
        refused("the ninth", ROOM, () -> x.entry(1, 0, 0, 1));
        for (int i = 1; i <= 8; i++) {
            due("of the first", x.entry(0, 0, 0, 1), i);
        }
        refused("the ninth", ROOM, () -> x.entry(0, 0, 0, 1));
    }

    private static void holdSound() {
        MoveRows x = new MoveRows();
        int b = x.batch();
        refused("empty", STATE, () -> x.hold(b));
        x.entry(b, 0, 0, -1);
        refused("one below nothing", STATE, () -> x.hold(b));
        x.entry(b, 1, 0, 2);
        refused("one above nothing", STATE, () -> x.hold(b));
        x.entry(b, 0, 7, -1);
        refused("the lots sum to nothing together, but none for itself", STATE, () -> x.hold(b));
        x.entry(b, 0, 0, -1);
        refused("the first lot is sound, the last is not", STATE, () -> x.hold(b));
        x.entry(b, 1, 7, 1);
        done("sound", () -> x.hold(b));
        due("held", x.told(b, 0), Moves.HELD);
    }

    private static void holdFree() {
        for (int account = 1; account <= 15; account++) {
            MoveRows x = new MoveRows();
            int from = account;
            int lot = account % 8;
            Moves.posted(x, 0, from, lot, 9, 0);
            Moves.held(x, from, 0, lot, 4);
            int more = Moves.open(x, from, 0, lot, 6);
            refused("one more than is free of " + from, ROOM, () -> x.hold(more));
            due("it stays open", x.told(more, 0), Moves.OPEN);
            int all = Moves.open(x, from, 0, lot, 5);
            done("all that is free of " + from, () -> x.hold(all));
            due("none is free", x.available(from, lot), 0);
        }
        MoveRows y = new MoveRows();
        Moves.held(y, 0, 1, 0, 5);
        refused("what a held one will bring is not free yet", ROOM, () -> Moves.held(y, 1, 2, 0, 1));
    }

    private static void holdNotOpen() {
        MoveRows x = oneOfEachState();
        refused("a held one", STATE, () -> x.hold(Moves.HELD));
        refused("a posted one", STATE, () -> x.hold(Moves.POSTED));
        refused("a reversed one", STATE, () -> x.hold(Moves.REVERSED));
        refused("a dropped one", STATE, () -> x.hold(Moves.DROPPED));
        refused("a reversing one", STATE, () -> x.hold(5));
        for (int bad : Moves.outside(0, 5)) {
            refused("batch " + bad, NONE_SUCH, () -> x.hold(bad));
        }
        due("one is held, as before", x.count(2), 1);
        x.entry(Moves.OPEN, 0, 0, 1);
        refused("one that is not sound", STATE, () -> x.hold(Moves.OPEN));
    }

    private static void freeHeld() {
        MoveRows x = oneOfEachState();
        refused("an open one", STATE, () -> x.free(Moves.OPEN));
        refused("a posted one", STATE, () -> x.free(Moves.POSTED));
        refused("a reversed one", STATE, () -> x.free(Moves.REVERSED));
        refused("a dropped one", STATE, () -> x.free(Moves.DROPPED));
        refused("a reversing one", STATE, () -> x.free(5));
        for (int bad : Moves.outside(0, 5)) {
            refused("batch " + bad, NONE_SUCH, () -> x.free(bad));
        }
        done("a held one", () -> x.free(Moves.HELD));
        due("open", x.told(Moves.HELD, 0), Moves.OPEN);
        refused("not twice", STATE, () -> x.free(Moves.HELD));

        MoveRows y = new MoveRows();
        Moves.posted(y, 0, 1, 0, 5, 0);
        int b = Moves.held(y, 1, 2, 0, 5);
        for (int i = 0; i < 3; i++) {
            due("all is held", y.available(1, 0), 0);
            y.free(b);
            due("all is free", y.available(1, 0), 5);
            done("held again", () -> y.hold(b));
        }
    }

    private static void dropOpenOrHeld() {
        MoveRows x = oneOfEachState();
        refused("a posted one", STATE, () -> x.drop(Moves.POSTED));
        refused("a reversed one", STATE, () -> x.drop(Moves.REVERSED));
        refused("a dropped one", STATE, () -> x.drop(Moves.DROPPED));
        refused("a reversing one", STATE, () -> x.drop(5));
        for (int bad : Moves.outside(0, 5)) {
            refused("batch " + bad, NONE_SUCH, () -> x.drop(bad));
        }
        done("an open one", () -> x.drop(Moves.OPEN));
        done("a held one", () -> x.drop(Moves.HELD));
        due("the open one is dropped", x.told(Moves.OPEN, 0), Moves.DROPPED);
        due("the held one is dropped", x.told(Moves.HELD, 0), Moves.DROPPED);
        int empty = x.batch();
        done("an empty one", () -> x.drop(empty));
        int full = Moves.filled(x, 8);
        done("one that is full and not sound", () -> x.drop(full));

        MoveRows y = new MoveRows();
        Moves.posted(y, 0, 1, 0, 5, 0);
        int held = Moves.held(y, 1, 2, 0, 5);
        int open = Moves.open(y, 1, 2, 0, 5);
        y.drop(open);
        due("an open one gives nothing free", y.available(1, 0), 0);
        y.drop(held);
        due("a held one gives free what it held", y.available(1, 0), 5);
    }

    private static void postOpenOrHeld() {
        MoveRows x = oneOfEachState();
        done("an open one", () -> x.post(Moves.OPEN, 0));
        done("a held one", () -> x.post(Moves.HELD, 1000));
        due("the open one is posted", x.told(Moves.OPEN, 0), Moves.POSTED);
        due("the held one is posted", x.told(Moves.HELD, 0), Moves.POSTED);
        due("the open one's day", x.told(Moves.OPEN, 2), 0);
        due("the held one's day", x.told(Moves.HELD, 2), 1000);
        due("both are there", x.stock(1, 0), 3);
        for (int bad : Moves.outside(0, 5)) {
            refused("batch " + bad, NONE_SUCH, () -> x.post(bad, 0));
        }
    }

    private static void postNotSo() {
        MoveRows x = oneOfEachState();
        refused("a posted one", STATE, () -> x.post(Moves.POSTED, 0));
        refused("a reversed one", STATE, () -> x.post(Moves.REVERSED, 0));
        refused("a dropped one", STATE, () -> x.post(Moves.DROPPED, 0));
        refused("a reversing one", STATE, () -> x.post(5, 0));
        due("nothing more is posted", x.count(1), 6);
    }

    private static void postNotSound() {
        MoveRows x = new MoveRows();
        int b = x.batch();
        refused("empty", STATE, () -> x.post(b, 0));
        x.entry(b, 0, 7, -1000000);
        refused("one entry", STATE, () -> x.post(b, 0));
        x.entry(b, 1, 7, 999999);
        refused("one is lacking", STATE, () -> x.post(b, 0));
        x.entry(b, 1, 6, 1);
        refused("it is there in another lot", STATE, () -> x.post(b, 0));
        due("none is posted", x.count(1), 0);
        x.entry(b, 1, 7, 1);
        x.entry(b, 0, 6, -1);
        done("sound", () -> x.post(b, 0));
    }

    private static void postClosed() {
        MoveRows x = new MoveRows();
        int b = Moves.open(x, 0, 1, 0, 1);
        x.close(0);
        refused("the only closed day", STATE, () -> x.post(b, 0));
        x.close(999);
        refused("the last closed day", STATE, () -> x.post(b, 999));
        refused("the first closed day", STATE, () -> x.post(b, 0));
        done("the only open day", () -> x.post(b, 1000));
    }

    private static void reverseNumber() {
        MoveRows x = new MoveRows();
        int a = Moves.posted(x, 0, 1, 0, 1, 0);
        x.batch();
        due("the next number", x.reverse(a, 0), 2);
        due("there are three", x.count(0), 3);
        for (int bad : Moves.outside(0, 2)) {
            refused("batch " + bad, NONE_SUCH, () -> x.reverse(bad, 0));
        }

        MoveRows y = new MoveRows();
        Moves.posted(y, 0, 1, 0, 1, 0);
        Moves.batchesUpTo(y, 39);
        due("the last number", y.reverse(0, 0), 39);

        MoveRows z = new MoveRows();
        Moves.posted(z, 0, 1, 0, 1, 0);
        Moves.batchesUpTo(z, 40);
        refused("no number is left", ROOM, () -> z.reverse(0, 0));
    }

    private static void reverseNotPosted() {
        MoveRows x = oneOfEachState();
        refused("an open one", STATE, () -> x.reverse(Moves.OPEN, 0));
        refused("a held one", STATE, () -> x.reverse(Moves.HELD, 0));
        refused("a reversed one", STATE, () -> x.reverse(Moves.REVERSED, 0));
        refused("a dropped one", STATE, () -> x.reverse(Moves.DROPPED, 0));
        due("no batch came", x.count(0), 6);
        due("a posted one", x.reverse(Moves.POSTED, 0), 6);
    }

    private static void reverseClosed() {
        MoveRows x = new MoveRows();
        int a = Moves.posted(x, 0, 1, 0, 1, 5);
        x.close(8);
        refused("its own day is closed", STATE, () -> x.reverse(a, 5));
        refused("the last closed day", STATE, () -> x.reverse(a, 8));
        due("the first open day", x.reverse(a, 9), 1);
        x.close(1000);
        refused("no day is left", STATE, () -> x.reverse(1, 1000));
    }

    private static void reverseBeforeItsOwn() {
        MoveRows x = new MoveRows();
        int a = Moves.posted(x, 0, 1, 0, 1, 1);
        refused("the day before", STATE, () -> x.reverse(a, 0));
        due("its own", x.reverse(a, 1), 1);
        int b = Moves.posted(x, 0, 1, 0, 1, 1000);
        refused("the day before the last", STATE, () -> x.reverse(b, 999));
        due("the last", x.reverse(b, 1000), 3);
    }

    /** All forty: each batch reverses the one before it. */
    private static void reverseReversing() {
        MoveRows x = new MoveRows();
        Moves.posted(x, 0, 1, 0, 7, 0);
        for (int b = 1; b < 40; b++) {
            due("reversing", x.reverse(b - 1, 0), b);
            due("reversed", x.told(b - 1, 0), Moves.REVERSED);
            due("stock", x.stock(1, 0), b % 2 == 0 ? 7 : 0);
        }
        refused("no room for one more", ROOM, () -> x.reverse(39, 0));
        due("the last stays posted", x.told(39, 0), Moves.POSTED);
    }

    private static void undoAllOfDay() {
        MoveRows x = new MoveRows();
        int before = Moves.posted(x, 0, 1, 0, 1, 499);
        int first = Moves.posted(x, 0, 1, 0, 2, 500);
        int behind = Moves.posted(x, 0, 1, 0, 4, 501);
        int second = Moves.posted(x, 0, 1, 0, 8, 500);
        int open = Moves.open(x, 0, 1, 0, 16);
        int held = Moves.held(x, 0, 1, 0, 32);
        int dropped = Moves.dropped(x, 0, 1, 0, 64);
        due("two", x.undo(500), 2);
        due("the first", x.told(first, 0), Moves.REVERSED);
        due("the second", x.told(second, 0), Moves.REVERSED);
        due("the day before", x.told(before, 0), Moves.POSTED);
        due("the day behind", x.told(behind, 0), Moves.POSTED);
        due("an open one", x.told(open, 0), Moves.OPEN);
        due("a held one", x.told(held, 0), Moves.HELD);
        due("a dropped one", x.told(dropped, 0), Moves.DROPPED);
        due("stock", x.stock(1, 0), 5);
    }

    private static void undoNoReversing() {
        MoveRows x = new MoveRows();
        int a = Moves.posted(x, 0, 1, 0, 1, 4);
        int r = x.reverse(a, 5);
        due("a reversing one alone", x.undo(5), 0);
        due("it stays", x.told(r, 0), Moves.POSTED);
        int rr = x.reverse(r, 5);
        due("one that reverses a reversing one", x.undo(5), 0);
        due("it stays, too", x.told(rr, 0), Moves.POSTED);
        int b = Moves.posted(x, 0, 1, 0, 1, 5);
        due("one that reverses none", x.undo(5), 1);
        due("it is reversed", x.told(b, 0), Moves.REVERSED);
        due("those that the undoing made are reversing ones", x.undo(5), 0);
        due("a reversed one is not posted any more", x.undo(4), 0);
    }

    private static void undoAtItsDay() {
        for (int day : new int[] {0, 1000}) {
            MoveRows x = new MoveRows();
            Moves.posted(x, 0, 1, 0, 1, day);
            due("one", x.undo(day), 1);
            due("at day " + day, x.told(1, 2), day);
            due("the row's day", x.row(1, 1, 3), day);
            due("nothing up to it", x.upTo(1, 0, day), 0);
        }
    }

    private static void undoLastFirst() {
        MoveRows x = new MoveRows();
        int c = Moves.open(x, 2, 3, 0, 5);
        int b = Moves.open(x, 1, 2, 0, 5);
        int a = Moves.open(x, 0, 1, 0, 5);
        x.post(a, 9);
        x.post(b, 9);
        x.post(c, 9);
        due("three", x.undo(9), 3);
        due("posted last, made first", x.told(3, 4), c);
        due("posted second", x.told(4, 4), b);
        due("posted first, made last", x.told(5, 4), a);
        due("rows in that order", x.row(2, 2, 0), 3);

        // All together they would take no more than there is; one after the other the first already lacks.
        MoveRows y = new MoveRows();
        Moves.posted(y, 0, 1, 0, 10, 0);
        Moves.posted(y, 1, 0, 0, 10, 5);
        Moves.posted(y, 0, 1, 0, 10, 5);
        Moves.posted(y, 1, 2, 0, 10, 6);
        refused("the last can't be at its turn", ROOM, () -> y.undo(5));
    }

    private static void undoHowMany() {
        MoveRows x = new MoveRows();
        due("of an empty day", x.undo(0), 0);
        Moves.posted(x, 0, 1, 0, 1, 0);
        due("of a day of one", x.undo(0), 1);
        due("none is left", x.undo(0), 0);

        MoveRows y = new MoveRows();
        for (int i = 0; i < 20; i++) {
            Moves.posted(y, 0, 1, 0, 1000000, 0);
        }
        due("twenty, with room for as many", y.undo(0), 20);
        due("forty", y.count(0), 40);
        due("none is left, none needs room", y.undo(0), 0);
        due("nothing is left", y.stock(1, 0), 0);
    }

    private static void undoClosed() {
        MoveRows x = new MoveRows();
        Moves.posted(x, 0, 1, 0, 1, 5);
        Moves.posted(x, 0, 1, 0, 1, 6);
        x.close(5);
        refused("the last closed day", STATE, () -> x.undo(5));
        refused("an empty closed day", STATE, () -> x.undo(0));
        due("the first open day", x.undo(6), 1);
        x.close(1000);
        refused("no day is left", STATE, () -> x.undo(1000));
        for (int bad : Moves.outside(0, 1000)) {
            refused("day " + bad, RANGE, () -> x.undo(bad));
        }
    }

    private static void undoOneCannot() {
        MoveRows x = new MoveRows();
        Moves.posted(x, 0, 1, 0, 5, 4);
        Moves.posted(x, 0, 2, 0, 5, 4);
        int first = Moves.held(x, 1, 3, 0, 1);
        refused("the one posted first lacks one", ROOM, () -> x.undo(4));
        x.drop(first);
        int last = Moves.held(x, 2, 3, 0, 1);
        refused("the one posted last lacks one", ROOM, () -> x.undo(4));
        x.drop(last);
        due("none lacks", x.undo(4), 2);

        MoveRows y = new MoveRows();
        for (int i = 0; i < 3; i++) {
            Moves.posted(y, 0, 1, 0, 5, 4);
        }
        Moves.batchesUpTo(y, 38);
        refused("room for two of three", ROOM, () -> y.undo(4));

        MoveRows z = new MoveRows();
        for (int i = 0; i < 3; i++) {
            Moves.posted(z, 0, 1, 0, 5, 4);
        }
        Moves.batchesUpTo(z, 37);
        due("room for three", z.undo(4), 3);

        MoveRows w = new MoveRows();
        Moves.posted(w, 0, 1, 0, 5, 4);
        Moves.batchesUpTo(w, 40);
        refused("no room", ROOM, () -> w.undo(4));
        due("no room, but none to undo", w.undo(5), 0);
    }

    private static void undoNoneIs() {
        MoveRows x = new MoveRows();
        Moves.posted(x, 0, 1, 0, 5, 4);
        Moves.posted(x, 0, 2, 0, 5, 4);
        Moves.posted(x, 0, 3, 0, 5, 4);
        Moves.held(x, 1, 4, 0, 1);
        refused("two could be, the third can't", ROOM, () -> x.undo(4));
        for (int b = 0; b < 3; b++) {
            due("posted", x.told(b, 0), Moves.POSTED);
            due("reversed by none", x.told(b, 3), -1);
            due("stock", x.stock(1 + b, 0), 5);
        }
        due("no batch came", x.count(0), 4);
        due("no entry was posted", x.count(1), 6);
        due("OUTSIDE", x.stock(0, 0), -15);
        due("the next number", x.batch(), 4);

        MoveRows y = new MoveRows();
        Moves.posted(y, 0, 1, 0, 5, 4);
        Moves.posted(y, 0, 2, 0, 5, 4);
        Moves.batchesUpTo(y, 39);
        refused("room for one of two", ROOM, () -> y.undo(4));
        due("the last one is posted", y.told(1, 0), Moves.POSTED);
        due("no batch came", y.count(0), 39);
        due("there is room for one still", y.batch(), 39);
    }

    private static void closeHowMany() {
        MoveRows x = new MoveRows();
        due("day 0", x.close(0), 1);
        due("the same again", x.close(0), 0);
        due("the next", x.close(1), 1);
        due("the one before", x.close(0), 0);
        due("998 more", x.close(999), 998);
        due("the last", x.close(1000), 1);
        due("the last again", x.close(1000), 0);
        due("day 0 again", x.close(0), 0);
        due("all at once", new MoveRows().close(1000), 1001);
    }

    private static void closeRange() {
        MoveRows x = new MoveRows();
        x.close(3);
        for (int bad : Moves.outside(0, 1000)) {
            refused("day " + bad, RANGE, () -> x.close(bad));
        }
        due("four closed, as before", x.count(3), 4);
        x.close(1000);
        refused("all closed, day 1001", RANGE, () -> x.close(1001));
        refused("all closed, day -1", RANGE, () -> x.close(-1));
    }

    private static void carryPlace() {
        for (int container = 10; container <= 15; container++) {
            MoveRows x = new MoveRows();
            Moves.posted(x, 0, container, 7, 6, 0);
            for (int place = 9; place >= 1; place--) {
                x.carry(container, place);
                for (int p = 1; p <= 9; p++) {
                    due(container + " at " + p + ", carried to " + place, x.at(p, 7), p == place ? 6 : 0);
                }
            }
            due("its stock stays", x.stock(container, 7), 6);
        }
    }

    private static void carrySum() {
        MoveRows x = new MoveRows();
        due("nothing", x.carry(10, 2), 0);
        for (int lot = 0; lot <= 7; lot++) {
            Moves.posted(x, 0, 10, lot, 1 << lot, 0);
            Moves.posted(x, 0, 11, lot, 1000, 0);
        }
        Moves.held(x, 10, 2, 7, 128);
        Moves.open(x, 0, 10, 0, 5);
        due("all lots, held or not, but what is posted alone", x.carry(10, 3), 255);
        due("the other's", x.carry(11, 3), 8000);

        MoveRows y = new MoveRows();
        for (int b = 0; b < 40; b++) {
            y.batch();
            for (int i = 0; i < 4; i++) {
                y.entry(b, 0, i, -1000000);
                y.entry(b, 15, i, 1000000);
            }
            y.post(b, 0);
        }
        due("the most that can be", y.carry(15, 2), 160000000);
    }

    private static void carryRange() {
        MoveRows x = new MoveRows();
        for (int bad : new int[] {Integer.MIN_VALUE, -1, 0, 1, 9, 16, 17, Integer.MAX_VALUE}) {
            refused("container " + bad, RANGE, () -> x.carry(bad, 2));
        }
        for (int bad : new int[] {Integer.MIN_VALUE, -1, 0, 10, 11, Integer.MAX_VALUE}) {
            refused("place " + bad, RANGE, () -> x.carry(15, bad));
        }
        due("the first container to the last place", x.carry(10, 9), 0);
        due("the last container to the first other place", x.carry(15, 2), 0);
    }

    private static void carryStandsThere() {
        MoveRows x = new MoveRows();
        for (int container = 10; container <= 15; container++) {
            int c = container;
            refused("at first", STATE, () -> x.carry(c, 1));
            x.carry(c, 9);
            refused("carried there", STATE, () -> x.carry(c, 9));
            done("back", () -> x.carry(c, 1));
            refused("carried back", STATE, () -> x.carry(c, 1));
        }
    }

    private static void stockGreatest() {
        MoveRows x = new MoveRows();
        for (int b = 0; b < 40; b++) {
            x.batch();
            for (int i = 0; i < 4; i++) {
                x.entry(b, 0, 7, -1000000);
                x.entry(b, 15, 7, 1000000);
            }
            x.post(b, 0);
        }
        due("the most", x.stock(15, 7), 160000000);
        due("the least", x.stock(0, 7), -160000000);
        due("none of the lot before", x.stock(15, 6), 0);
        due("none of the account before", x.stock(14, 7), 0);
    }

    private static void stockRange() {
        MoveRows x = new MoveRows();
        for (int bad : Moves.outside(0, 15)) {
            refused("account " + bad, RANGE, () -> x.stock(bad, 0));
        }
        for (int bad : Moves.outside(0, 7)) {
            refused("lot " + bad, RANGE, () -> x.stock(0, bad));
        }
        refused("a lot that would be the next account's first", RANGE, () -> x.stock(1, 8));
        refused("a lot that would be the last account's last", RANGE, () -> x.stock(1, -1));
        due("the first", x.stock(0, 0), 0);
        due("the last", x.stock(15, 7), 0);
    }

    private static void upToDay() {
        MoveRows x = new MoveRows();
        due("nothing yet", x.upTo(1, 0, 1000), 0);
        Moves.posted(x, 0, 1, 0, 1, 0);
        Moves.posted(x, 0, 1, 0, 2, 500);
        Moves.posted(x, 0, 1, 0, 4, 1000);
        due("day 0 itself", x.upTo(1, 0, 0), 1);
        due("the day before", x.upTo(1, 0, 499), 1);
        due("the day itself", x.upTo(1, 0, 500), 3);
        due("the day behind", x.upTo(1, 0, 501), 3);
        due("the day before the last", x.upTo(1, 0, 999), 3);
        due("the last day", x.upTo(1, 0, 1000), 7);
        due("OUTSIDE", x.upTo(0, 0, 500), -3);
        Moves.posted(x, 1, 2, 0, 7, 0);
        due("below nothing at an early day", x.upTo(1, 0, 0), -6);
        x.close(1000);
        due("a closed day", x.upTo(1, 0, 500), -4);

        MoveRows y = new MoveRows();
        for (int b = 0; b < 40; b++) {
            y.batch();
            for (int i = 0; i < 4; i++) {
                y.entry(b, 0, 7, -1000000);
                y.entry(b, 15, 7, 1000000);
            }
            y.post(b, b);
        }
        due("several entries of a batch", y.upTo(15, 7, 0), 4000000);
        due("all but the last batch", y.upTo(15, 7, 38), 156000000);
        due("the most that can be", y.upTo(15, 7, 39), 160000000);
        due("the least that can be", y.upTo(0, 7, 1000), -160000000);
    }

    private static void upToRange() {
        MoveRows x = new MoveRows();
        for (int bad : Moves.outside(0, 15)) {
            refused("account " + bad, RANGE, () -> x.upTo(bad, 0, 0));
        }
        for (int bad : Moves.outside(0, 7)) {
            refused("lot " + bad, RANGE, () -> x.upTo(0, bad, 0));
        }
        for (int bad : Moves.outside(0, 1000)) {
            refused("day " + bad, RANGE, () -> x.upTo(0, 0, bad));
        }
        due("the last of all", x.upTo(15, 7, 1000), 0);
    }

    private static void availableOutside() {
        MoveRows x = new MoveRows();
        Moves.posted(x, 0, 1, 0, 5, 0);
        Moves.held(x, 0, 1, 0, 1000000);
        due("OUTSIDE below nothing, one held from it", x.available(0, 0), -5);
        due("what comes is not free", x.available(1, 0), 5);
        Moves.held(x, 1, 0, 0, 5);
        due("all is held", x.available(1, 0), 0);
        due("what comes to OUTSIDE is not there", x.available(0, 0), -5);
        Moves.posted(x, 0, 2, 0, 3, 0);
        due("OUTSIDE when more went", x.available(0, 0), -8);
        x.post(Moves.held(x, 2, 0, 0, 3), 0);
        due("OUTSIDE when a held one was posted to it", x.available(0, 0), -5);
    }

    private static void availableRange() {
        MoveRows x = new MoveRows();
        for (int bad : Moves.outside(0, 15)) {
            refused("account " + bad, RANGE, () -> x.available(bad, 0));
        }
        for (int bad : Moves.outside(0, 7)) {
            refused("lot " + bad, RANGE, () -> x.available(0, bad));
        }
        due("the first", x.available(0, 0), 0);
        due("the last", x.available(15, 7), 0);
    }

    private static void atContainers() {
        MoveRows x = new MoveRows();
        due("nothing", x.at(1, 0), 0);
        for (int container = 10; container <= 15; container++) {
            Moves.posted(x, 0, container, 3, 1 << (container - 10), 0);
        }
        Moves.posted(x, 0, 1, 3, 64, 0);
        Moves.posted(x, 0, 9, 3, 128, 0);
        due("all containers and its own", x.at(1, 3), 127);
        due("no container", x.at(9, 3), 128);
        x.carry(10, 9);
        x.carry(15, 9);
        due("two went", x.at(1, 3), 94);
        due("two came", x.at(9, 3), 161);
        due("another lot", x.at(9, 2), 0);
        Moves.held(x, 9, 0, 3, 128);
        due("held or not", x.at(9, 3), 161);
    }

    private static void atRange() {
        MoveRows x = new MoveRows();
        for (int bad : Moves.outside(1, 9)) {
            refused("place " + bad, RANGE, () -> x.at(bad, 0));
        }
        refused("a container is no place", RANGE, () -> x.at(15, 0));
        for (int bad : Moves.outside(0, 7)) {
            refused("lot " + bad, RANGE, () -> x.at(1, bad));
        }
        due("the first", x.at(1, 0), 0);
        due("the last", x.at(9, 7), 0);
    }

    private static void rowOrder() {
        MoveRows x = new MoveRows();
        int late = Moves.open(x, 0, 1, 0, 3);
        int early = Moves.open(x, 0, 1, 0, 4);
        x.post(early, 1000);
        x.post(late, 0);
        due("the first posted, not the first made, nor of the first day", x.row(1, 0, 0), early);
        due("the second posted", x.row(1, 1, 0), late);
        int r = x.reverse(late, 5);
        due("the reversed one stays", x.row(1, 1, 0), late);
        due("the reversing one comes last", x.row(1, 2, 0), r);
        due("another account's are not counted", x.row(0, 2, 0), r);

        MoveRows y = new MoveRows();
        int b = y.batch();
        for (int i = 0; i < 8; i++) {
            y.entry(b, 5, 0, i % 2 == 0 ? i + 1 : -i);
        }
        y.post(b, 0);
        for (int i = 0; i < 8; i++) {
            due("of one batch, entry " + i, y.row(5, i, 2), i % 2 == 0 ? i + 1 : -i);
        }
    }

    private static void rowWhat() {
        MoveRows x = new MoveRows();
        x.batch();
        Moves.posted(x, 0, 15, 7, 1000000, 1000);
        int[] came = {1, 7, 1000000, 1000};
        int[] went = {1, 7, -1000000, 1000};
        for (int what = 0; what <= 3; what++) {
            due("what came, " + what, x.row(15, 0, what), came[what]);
            due("what went, " + what, x.row(0, 0, what), went[what]);
        }
        Moves.posted(x, 0, 15, 0, 1, 0);
        int[] least = {2, 0, 1, 0};
        for (int what = 0; what <= 3; what++) {
            due("the least, " + what, x.row(15, 1, what), least[what]);
        }
    }

    private static void rowNotSoMany() {
        MoveRows x = new MoveRows();
        Moves.open(x, 0, 1, 0, 1);
        Moves.held(x, 0, 1, 0, 1);
        Moves.dropped(x, 0, 1, 0, 1);
        refused("none posted", NONE_SUCH, () -> x.row(1, 0, 0));
        Moves.posted(x, 0, 1, 0, 1, 0);
        due("one", x.row(1, 0, 0), 3);
        for (int bad : Moves.outside(0, 0)) {
            refused("i " + bad, NONE_SUCH, () -> x.row(1, bad, 0));
        }
        refused("none of the next account", NONE_SUCH, () -> x.row(2, 0, 0));

        MoveRows y = new MoveRows();
        for (int b = 0; b < 40; b++) {
            y.batch();
            for (int i = 0; i < 8; i++) {
                y.entry(b, 0, 0, i % 2 == 0 ? 1 : -1);
            }
            y.post(b, 0);
        }
        due("the last of all that can be", y.row(0, 319, 0), 39);
        refused("one more", NONE_SUCH, () -> y.row(0, 320, 0));
    }

    private static void rowRange() {
        MoveRows x = new MoveRows();
        Moves.posted(x, 0, 15, 0, 1, 0);
        for (int bad : Moves.outside(0, 15)) {
            refused("account " + bad, RANGE, () -> x.row(bad, 0, 0));
        }
        for (int bad : Moves.outside(0, 3)) {
            refused("what " + bad, RANGE, () -> x.row(0, 0, bad));
        }
    }

    private static void toldStateAndEntries() {
        MoveRows x = oneOfEachState();
        for (int state = 0; state <= 4; state++) {
            due("state " + state, x.told(state, 0), state);
            due("entries in state " + state, x.told(state, 1), 2);
        }
        due("no entries", x.told(x.batch(), 1), 0);
        due("eight entries", x.told(Moves.filled(x, 8), 1), 8);
    }

    private static void toldDay() {
        MoveRows x = oneOfEachState();
        due("open", x.told(Moves.OPEN, 2), -1);
        due("held", x.told(Moves.HELD, 2), -1);
        due("posted at day 0", x.told(Moves.POSTED, 2), 0);
        due("reversed, of day 0", x.told(Moves.REVERSED, 2), 0);
        due("dropped", x.told(Moves.DROPPED, 2), -1);
        x.drop(Moves.HELD);
        due("held and dropped", x.told(Moves.HELD, 2), -1);
        int r = x.reverse(Moves.POSTED, 1000);
        due("the reversing one has the day of the reversing", x.told(r, 2), 1000);
        due("the reversed one keeps its own", x.told(Moves.POSTED, 2), 0);
        refused("not posted at a day that there is not", RANGE, () -> x.post(Moves.OPEN, 1001));
        due("so it was never posted", x.told(Moves.OPEN, 2), -1);
    }

    private static void toldReversedBy() {
        MoveRows x = oneOfEachState();
        due("open", x.told(Moves.OPEN, 3), -1);
        due("held", x.told(Moves.HELD, 3), -1);
        due("posted", x.told(Moves.POSTED, 3), -1);
        due("reversed", x.told(Moves.REVERSED, 3), 5);
        due("dropped", x.told(Moves.DROPPED, 3), -1);
        due("reversing", x.told(5, 3), -1);
        x.reverse(5, 0);
        due("reversing and reversed", x.told(5, 3), 6);

        MoveRows y = new MoveRows();
        Moves.posted(y, 0, 1, 0, 1, 0);
        Moves.batchesUpTo(y, 39);
        y.reverse(0, 0);
        due("the first by the last", y.told(0, 3), 39);
    }

    private static void toldReverses() {
        MoveRows x = oneOfEachState();
        for (int state = 0; state <= 4; state++) {
            due("state " + state, x.told(state, 4), -1);
        }
        due("reversing", x.told(5, 4), 3);
        x.reverse(5, 0);
        due("reversing and reversed", x.told(5, 4), 3);
        due("reversing a reversing one", x.told(6, 4), 5);

        MoveRows y = new MoveRows();
        Moves.posted(y, 0, 1, 0, 1, 0);
        y.undo(0);
        due("batch 0, by undoing", y.told(1, 4), 0);
    }

    private static void toldRefused() {
        MoveRows x = new MoveRows();
        Moves.batchesUpTo(x, 40);
        for (int bad : Moves.outside(0, 39)) {
            refused("batch " + bad, NONE_SUCH, () -> x.told(bad, 0));
        }
        for (int bad : Moves.outside(0, 4)) {
            refused("what " + bad, RANGE, () -> x.told(39, bad));
        }
        due("the last batch", x.told(39, 4), -1);
    }

    private static void packedNumbers() {
        MoveRows x = new MoveRows();
        int b = x.batch();
        x.entry(b, 15, 7, 1000000);
        x.entry(b, 15, 7, -1000000);
        x.entry(b, 0, 0, 1000000);
        x.entry(b, 0, 0, -1000000);
        x.entry(b, 0, 0, 1);
        x.entry(b, 0, 0, -1);
        x.entry(b, 15, 0, -1);
        x.entry(b, 0, 7, -1);
        long[] want = {128000127, -127999873, 128000000, -128000000, 128, -128, -8, -121};
        for (int i = 0; i < 8; i++) {
            due("entry " + i, x.packed(b, i), want[i]);
        }
        x.drop(b);
        due("of a dropped one", x.packed(b, 0), want[0]);
    }

    private static void packedRefused() {
        MoveRows x = new MoveRows();
        int empty = x.batch();
        refused("an empty one has none", NONE_SUCH, () -> x.packed(empty, 0));
        int two = Moves.open(x, 0, 1, 0, 1);
        due("the last entry", x.packed(two, 1), 136);
        for (int bad : Moves.outside(0, 1)) {
            refused("entry " + bad, NONE_SUCH, () -> x.packed(two, bad));
        }
        int full = Moves.filled(x, 8);
        due("the eighth", x.packed(full, 7), 128);
        refused("no ninth", NONE_SUCH, () -> x.packed(full, 8));
        refused("the one before the first", NONE_SUCH, () -> x.packed(full, -1));
        for (int bad : Moves.outside(0, 2)) {
            refused("batch " + bad, NONE_SUCH, () -> x.packed(bad, 0));
        }
    }

    private static void countBatches() {
        MoveRows x = new MoveRows();
        due("none", x.count(0), 0);
        x.batch();
        due("one", x.count(0), 1);
        due("each state and a reversing one", oneOfEachState().count(0), 6);
        Moves.batchesUpTo(x, 40);
        due("forty", x.count(0), 40);
    }

    private static void countEntries() {
        MoveRows x = new MoveRows();
        due("none", x.count(1), 0);
        Moves.open(x, 0, 1, 0, 1);
        Moves.held(x, 0, 1, 0, 1);
        Moves.dropped(x, 0, 1, 0, 1);
        due("none posted", x.count(1), 0);
        Moves.reversed(x, 0, 1, 0, 1, 0);
        due("reversed and reversing ones", x.count(1), 4);

        MoveRows y = new MoveRows();
        for (int b = 0; b < 40; b++) {
            y.batch();
            for (int i = 0; i < 8; i++) {
                y.entry(b, 0, 0, i % 2 == 0 ? 1 : -1);
            }
            y.post(b, 0);
        }
        due("the most that can be", y.count(1), 320);
    }

    private static void countHeld() {
        MoveRows x = new MoveRows();
        due("none", x.count(2), 0);
        for (int b = 0; b < 40; b++) {
            Moves.held(x, 0, 1, 0, 1);
            due("held", x.count(2), b + 1);
        }
        x.free(0);
        due("one freed", x.count(2), 39);
        x.drop(39);
        due("one dropped", x.count(2), 38);
        x.post(1, 0);
        due("one posted", x.count(2), 37);
    }

    private static void countClosed() {
        MoveRows x = new MoveRows();
        due("none", x.count(3), 0);
        x.close(0);
        due("one", x.count(3), 1);
        x.close(1000);
        due("all", x.count(3), 1001);
        x.close(3);
        due("all stay", x.count(3), 1001);
    }

    private static void countAnother() {
        MoveRows x = oneOfEachState();
        for (int another : Moves.outside(0, 3)) {
            due("what " + another, x.count(another), -1);
        }
    }
}
