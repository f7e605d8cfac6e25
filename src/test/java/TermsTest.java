import java.util.NoSuchElementException;

/** Each sentence of the document's section "Terms" that names a bound, with a test of its own. */
public final class TermsTest {
    private static final Class<NoSuchElementException> NONE_SUCH = NoSuchElementException.class;
    private static final Class<IllegalArgumentException> RANGE = IllegalArgumentException.class;
    private static final Class<IllegalStateException> STATE = IllegalStateException.class;
    private static final Class<UnsupportedOperationException> ROOM = UnsupportedOperationException.class;

    private static final Checks checks = new Checks();

    public static void main(String[] args) {
        numbers();
        batches();
        soundAndHolds();
        posting();
        reversingAndClosing();
        checks.end("TermsTest");
    }

    private static void numbers() {
        checks.sentence("An object is used for at most 512 calls after it has been made", TermsTest::calls);
        checks.sentence("ACCOUNTS 0 .. 15", TermsTest::accounts);
        checks.sentence("0 is OUTSIDE, which may go below nothing", TermsTest::outsideBelowNothing);
        checks.sentence("1 .. 9 are PLACES", TermsTest::places);
        checks.sentence("10 .. 15 are CONTAINERS", TermsTest::containers);
        checks.sentence("each standing at a place (1 at first)", TermsTest::firstPlace);
        checks.sentence("LOTS are 0 .. 7.", TermsTest::lots);
        checks.sentence("The STOCK of an account and lot is the sum of its posted entries.", TermsTest::stockIsPosted);
    }

    private static void batches() {
        checks.sentence("A BATCH (at most 40", TermsTest::atMostForty);
        checks.sentence("as they come", TermsTest::asTheyCome);
        checks.sentence("has at most 8 ENTRIES", TermsTest::atMostEight);
        checks.sentence("an amount (-1000000 .. 1000000", TermsTest::amounts);
        checks.sentence("not 0)", TermsTest::amountNotZero);
        checks.sentence("It is 0 OPEN, 1 HELD, 2 POSTED, 3 REVERSED or 4 DROPPED.", TermsTest::states);
        checks.sentence("Its NET for an account and lot is the sum of its entries for them.", TermsTest::netIsSum);
    }

    private static void soundAndHolds() {
        checks.sentence("It is SOUND if it has entries", TermsTest::soundHasEntries);
        checks.sentence("and for each lot they sum to 0.", TermsTest::soundSumsToNothing);
        checks.sentence("A HELD batch HOLDS, of each account but OUTSIDE and lot", TermsTest::holdsOfEach);
        checks.sentence("as much as its net is below 0.", TermsTest::holdsNetBelowNothing);
        checks.sentence("FREE is the stock less what HELD batches hold", TermsTest::freeIsStockLessHeld);
        checks.sentence("never below 0 but OUTSIDE.", TermsTest::freeNeverBelowNothing);
    }

    private static void posting() {
        checks.sentence("POSTING a batch at a day (0 .. 1000)", TermsTest::postingDays);
        checks.sentence("it is sound,", TermsTest::postingSound);
        checks.sentence("the day is not closed,", TermsTest::postingNotClosed);
        checks.sentence("and its net added to what is free", TermsTest::postingNet);
        checks.sentence("(its own hold, if it is HELD, counted as free)", TermsTest::postingOwnHold);
        checks.sentence("is not below 0 for any account but OUTSIDE;", TermsTest::postingEveryAccount);
        checks.sentence("then all its entries are posted at this day, in their order.", TermsTest::postingAllInOrder);
    }

    private static void reversingAndClosing() {
        checks.sentence("REVERSING a POSTED batch at a day", TermsTest::reversingPosted);
        checks.sentence("a new batch with its entries in their order, each amount's contrary", TermsTest::reversingEntries);
        checks.sentence("is posted at this day, if it may", TermsTest::reversingIfItMay);
        checks.sentence("the one is REVERSED then, the other POSTED.", TermsTest::reversingStates);
        checks.sentence("The day is not before that of the reversed one.", TermsTest::reversingDay);
        checks.sentence("CLOSING a day closes all days up to it.", TermsTest::closingUpTo);
    }

    private static void due(String what, long got, long want) {
        checks.due(what, got, want);
    }

    private static void refused(String what, Class<? extends Exception> want, Checks.Step step) {
        checks.refused(what, want, step);
    }

    private static void done(String what, Checks.Step step) {
        checks.done(what, step);
    }

    /** The 512th call is answered as the first, with all the room used. */
    private static void calls() {
        MoveRows x = new MoveRows();
        int made = 0;
        for (int b = 0; b < 40; b++) {
            x.batch();
            for (int i = 0; i < 8; i++) {
                x.entry(b, i % 2 == 0 ? 0 : 1, 0, i % 2 == 0 ? -1 : 1);
            }
            x.post(b, 1000);
            made += 10;
        }
        for (; made < 510; made++) {
            due("stock", x.stock(1, 0), 160);
        }
        due("call 511: row", x.row(1, 159, 0), 39);
        due("call 512: close", x.close(1000), 1001);
    }

    private static void accounts() {
        MoveRows x = new MoveRows();
        Moves.posted(x, 0, 15, 0, 9, 0);
        int b = x.batch();
        for (int good : new int[] {0, 15}) {
            due("entry " + good, x.entry(b, good, 0, 1), good == 0 ? 1 : 2);
            due("stock " + good, x.stock(good, 0), good == 0 ? -9 : 9);
            due("upTo " + good, x.upTo(good, 0, 0), good == 0 ? -9 : 9);
            due("available " + good, x.available(good, 0), good == 0 ? -9 : 9);
            due("row " + good, x.row(good, 0, 2), good == 0 ? -9 : 9);
        }
        for (int bad : Moves.outside(0, 15)) {
            refused("entry " + bad, RANGE, () -> x.entry(b, bad, 0, 1));
            refused("stock " + bad, RANGE, () -> x.stock(bad, 0));
            refused("upTo " + bad, RANGE, () -> x.upTo(bad, 0, 0));
            refused("available " + bad, RANGE, () -> x.available(bad, 0));
            refused("row " + bad, RANGE, () -> x.row(bad, 0, 0));
        }
    }

    private static void outsideBelowNothing() {
        for (int lot = 0; lot <= 7; lot++) {
            MoveRows x = new MoveRows();
            int at = lot;
            done("posted from nothing", () -> Moves.posted(x, 0, 1, at, 1, 0));
            done("posted from below nothing", () -> Moves.posted(x, 0, 1, at, 1000000, 0));
            done("held from below nothing", () -> Moves.held(x, 0, 1, at, 1000000));
            due("below nothing", x.stock(0, lot), -1000001);
        }
        MoveRows y = new MoveRows();
        Moves.posted(y, 0, 1, 0, 5, 0);
        Moves.posted(y, 1, 0, 0, 5, 0);
        done("a reversal takes from OUTSIDE what is not there", () -> {
            Moves.posted(y, 0, 2, 0, 5, 0);
            y.reverse(1, 0);
        });
        due("below nothing again", y.stock(0, 0), -10);
        for (int account = 1; account <= 15; account++) {
            MoveRows x = new MoveRows();
            int from = account;
            refused("no other may be posted below, " + from, ROOM, () -> Moves.posted(x, from, 0, 0, 1, 0));
            refused("no other may be held below, " + from, ROOM, () -> Moves.held(x, from, 0, 0, 1));
        }
    }

    private static void places() {
        MoveRows x = new MoveRows();
        Moves.posted(x, 0, 1, 0, 3, 0);
        Moves.posted(x, 0, 9, 0, 4, 0);
        due("at 1", x.at(1, 0), 3);
        due("at 9", x.at(9, 0), 4);
        due("carry to 9", x.carry(10, 9), 0);
        due("carry to 1", x.carry(10, 1), 0);
        for (int bad : Moves.outside(1, 9)) {
            refused("at " + bad, RANGE, () -> x.at(bad, 0));
            refused("carry to " + bad, RANGE, () -> x.carry(10, bad));
        }
    }

    private static void containers() {
        MoveRows x = new MoveRows();
        for (int container = 10; container <= 15; container++) {
            due("carry " + container, x.carry(container, 2), 0);
        }
        for (int bad : Moves.outside(10, 15)) {
            refused("carry " + bad, RANGE, () -> x.carry(bad, 3));
        }
        for (int account = 0; account <= 9; account++) {
            int bad = account;
            refused("carry " + bad, RANGE, () -> x.carry(bad, 3));
        }
    }

    private static void firstPlace() {
        MoveRows x = new MoveRows();
        for (int container = 10; container <= 15; container++) {
            int c = container;
            refused(c + " stands at 1", STATE, () -> x.carry(c, 1));
            Moves.posted(x, 0, c, 0, 1 << (c - 10), 0);
        }
        due("all stand at 1", x.at(1, 0), 63);
        for (int place = 2; place <= 9; place++) {
            due("none stands at " + place, x.at(place, 0), 0);
        }
    }

    private static void lots() {
        MoveRows x = new MoveRows();
        Moves.posted(x, 0, 1, 0, 4, 0);
        Moves.posted(x, 0, 1, 7, 5, 0);
        int b = x.batch();
        for (int good : new int[] {0, 7}) {
            due("entry " + good, x.entry(b, 1, good, 1), good == 0 ? 1 : 2);
            due("stock " + good, x.stock(1, good), good == 0 ? 4 : 5);
            due("upTo " + good, x.upTo(1, good, 0), good == 0 ? 4 : 5);
            due("available " + good, x.available(1, good), good == 0 ? 4 : 5);
            due("at " + good, x.at(1, good), good == 0 ? 4 : 5);
        }
        for (int bad : Moves.outside(0, 7)) {
            refused("entry " + bad, RANGE, () -> x.entry(b, 1, bad, 1));
            refused("stock " + bad, RANGE, () -> x.stock(1, bad));
            refused("upTo " + bad, RANGE, () -> x.upTo(1, bad, 0));
            refused("available " + bad, RANGE, () -> x.available(1, bad));
            refused("at " + bad, RANGE, () -> x.at(1, bad));
        }
    }

    private static void stockIsPosted() {
        MoveRows x = new MoveRows();
        due("of no entries", x.stock(3, 4), 0);
        Moves.open(x, 0, 3, 4, 1);
        Moves.held(x, 0, 3, 4, 2);
        Moves.dropped(x, 0, 3, 4, 4);
        due("none posted", x.stock(3, 4), 0);
        Moves.reversed(x, 0, 3, 4, 8, 0);
        due("a reversed one and its reversing one", x.stock(3, 4), 0);
        Moves.posted(x, 0, 3, 4, 16, 1000);
        Moves.posted(x, 0, 3, 4, 32, 0);
        due("two posted, at whatever days", x.stock(3, 4), 48);
        Moves.posted(x, 3, 5, 4, 48, 0);
        due("all gone", x.stock(3, 4), 0);
        due("the account before", x.stock(2, 4), 0);
        due("the account behind", x.stock(4, 4), 0);
        due("the lot before", x.stock(3, 3), 0);
        due("the lot behind", x.stock(3, 5), 0);
        due("OUTSIDE", x.stock(0, 4), -48);
    }

    private static void atMostForty() {
        MoveRows x = new MoveRows();
        Moves.batchesUpTo(x, 39);
        due("the fortieth", x.batch(), 39);
        refused("one more", ROOM, x::batch);
        due("forty", x.count(0), 40);
        due("the last one takes entries", x.entry(39, 0, 0, 1), 1);

        MoveRows y = new MoveRows();
        Moves.posted(y, 0, 1, 0, 1, 0);
        Moves.batchesUpTo(y, 39);
        due("a reversing one is the fortieth", y.reverse(0, 0), 39);
        refused("one more reversing one", ROOM, () -> y.reverse(39, 0));
        refused("one more", ROOM, y::batch);
    }

    private static void asTheyCome() {
        MoveRows x = new MoveRows();
        due("first", Moves.posted(x, 0, 1, 0, 1, 0), 0);
        due("second", x.batch(), 1);
        due("a reversing one", x.reverse(0, 0), 2);
        x.drop(1);
        due("a dropped one's number does not come again", x.batch(), 3);
        Moves.posted(x, 0, 1, 0, 1, 0);
        due("undone", x.undo(0), 1);
        due("behind the undoing one", x.batch(), 6);
    }

    private static void atMostEight() {
        MoveRows x = new MoveRows();
        int b = Moves.filled(x, 7);
        due("the eighth", x.entry(b, 0, 0, 1), 8);
        refused("one more", ROOM, () -> x.entry(b, 0, 0, 1));
        due("eight", x.told(b, 1), 8);
        int c = x.batch();
        due("the next batch has room of its own", x.entry(c, 1, 1, 1), 1);
        due("and leaves the full one alone", x.packed(b, 7), 128);
    }

    private static void amounts() {
        MoveRows x = new MoveRows();
        int b = x.batch();
        due("the least", x.entry(b, 1, 1, -1000000), 1);
        due("the greatest", x.entry(b, 0, 1, 1000000), 2);
        for (int bad : Moves.outside(-1000000, 1000000)) {
            refused("amount " + bad, RANGE, () -> x.entry(b, 0, 0, bad));
        }
        due("two came", x.told(b, 1), 2);
        due("the least is kept", x.packed(b, 0), -128000000 + 9);
        due("the greatest is kept", x.packed(b, 1), 128000000 + 1);
    }

    private static void amountNotZero() {
        MoveRows x = new MoveRows();
        int b = x.batch();
        refused("0", RANGE, () -> x.entry(b, 1, 1, 0));
        due("none came", x.told(b, 1), 0);
        due("1", x.entry(b, 1, 1, 1), 1);
        due("-1", x.entry(b, 1, 1, -1), 2);
    }

    private static void states() {
        MoveRows x = new MoveRows();
        due("OPEN", x.told(Moves.open(x, 0, 1, 0, 1), 0), 0);
        due("HELD", x.told(Moves.held(x, 0, 1, 0, 1), 0), 1);
        due("POSTED", x.told(Moves.posted(x, 0, 1, 0, 1, 0), 0), 2);
        due("REVERSED", x.told(Moves.reversed(x, 0, 1, 0, 1, 0), 0), 3);
        due("DROPPED", x.told(Moves.dropped(x, 0, 1, 0, 1), 0), 4);
    }

    private static void netIsSum() {
        MoveRows x = new MoveRows();
        Moves.posted(x, 0, 1, 0, 10, 0);
        int b = x.batch();
        x.entry(b, 1, 0, -1000000);
        x.entry(b, 2, 0, 10);
        x.entry(b, 1, 0, 999990);
        x.hold(b);
        due("more goes than is there, but comes back", x.available(1, 0), 0);
        int c = x.batch();
        x.entry(c, 1, 0, 4);
        x.entry(c, 1, 0, -4);
        done("a net of nothing may be held where nothing is free", () -> x.hold(c));
        done("and posted", () -> x.post(c, 0));
        int d = x.batch();
        x.entry(d, 1, 0, 4);
        x.entry(d, 1, 0, -5);
        x.entry(d, 2, 0, 1);
        refused("a net of one below may not", ROOM, () -> x.post(d, 0));
        int e = x.batch();
        x.entry(e, 1, 0, -4);
        x.entry(e, 2, 0, 4);
        x.entry(e, 1, 1, 4);
        x.entry(e, 0, 1, -4);
        refused("another lot does not make up for it", ROOM, () -> x.post(e, 0));
    }

    private static void soundHasEntries() {
        MoveRows x = new MoveRows();
        int b = x.batch();
        refused("an empty one is not held", STATE, () -> x.hold(b));
        refused("an empty one is not posted", STATE, () -> x.post(b, 0));
        due("it stays open", x.told(b, 0), Moves.OPEN);
        x.entry(b, 0, 0, 1);
        refused("a single entry is not sound", STATE, () -> x.post(b, 0));
        x.entry(b, 0, 0, -1);
        done("two that sum to nothing are held", () -> x.hold(b));
        done("and posted", () -> x.post(b, 0));
        int c = x.batch();
        for (int i = 0; i < 8; i++) {
            x.entry(c, i < 4 ? 0 : 1, 0, i < 4 ? -1000000 : 1000000);
        }
        done("eight that sum to nothing", () -> x.post(c, 0));
    }

    private static void soundSumsToNothing() {
        for (int lot = 0; lot <= 7; lot++) {
            for (int off : new int[] {-1, 1}) {
                MoveRows x = new MoveRows();
                int b = Moves.open(x, 0, 1, lot, 5);
                x.entry(b, 0, lot, off);
                refused("lot " + lot + " is off by " + off, STATE, () -> x.hold(b));
                refused("lot " + lot + " is off by " + off, STATE, () -> x.post(b, 0));
                int other = (lot + 1) % 8;
                x.entry(b, 0, other, -off);
                refused("another lot does not make up for " + lot, STATE, () -> x.post(b, 0));
                x.entry(b, 0, other, off);
                refused("another sound lot does not help " + lot, STATE, () -> x.post(b, 0));
                x.entry(b, 0, lot, -off);
                done("lot " + lot + " sums to nothing", () -> x.post(b, 0));
            }
        }
    }

    private static void holdsOfEach() {
        for (int account = 1; account <= 15; account++) {
            MoveRows x = new MoveRows();
            int lot = account % 8;
            Moves.posted(x, 0, account, lot, 9, 0);
            Moves.held(x, account, 0, lot, 4);
            due("of account " + account, x.available(account, lot), 5);
            due("not of the next lot", x.available(account, (lot + 1) % 8), 0);
            due("not of OUTSIDE", x.available(0, lot), -9);
        }
        MoveRows y = new MoveRows();
        for (int i = 0; i < 3; i++) {
            done("of OUTSIDE nothing is held, so nothing can lack", () -> Moves.held(y, 0, 1, 0, 1000000));
        }
        due("OUTSIDE's free is its stock", y.available(0, 0), 0);

        MoveRows z = new MoveRows();
        for (int lot = 0; lot < 4; lot++) {
            Moves.posted(z, 0, 1, lot, 10, 0);
        }
        int b = z.batch();
        for (int lot = 0; lot < 4; lot++) {
            z.entry(b, 1, lot, -1 - lot);
            z.entry(b, 2, lot, 1 + lot);
        }
        z.hold(b);
        for (int lot = 0; lot < 4; lot++) {
            due("of each lot its own", z.available(1, lot), 9 - lot);
        }
    }

    private static void holdsNetBelowNothing() {
        MoveRows x = new MoveRows();
        Moves.posted(x, 0, 1, 0, 10, 0);
        Moves.posted(x, 0, 2, 0, 10, 0);
        Moves.posted(x, 0, 3, 0, 10, 0);
        int b = x.batch();
        x.entry(b, 1, 0, -7);
        x.entry(b, 1, 0, 6);
        x.entry(b, 2, 0, -6);
        x.entry(b, 2, 0, 6);
        x.entry(b, 3, 0, -6);
        x.entry(b, 3, 0, 7);
        x.hold(b);
        due("one below: one is held", x.available(1, 0), 9);
        due("nothing: none is held", x.available(2, 0), 10);
        due("one above: none is held, none comes", x.available(3, 0), 10);
    }

    private static void freeIsStockLessHeld() {
        MoveRows x = new MoveRows();
        due("nothing is free at first", x.available(1, 0), 0);
        Moves.posted(x, 0, 1, 0, 10, 0);
        Moves.open(x, 1, 2, 0, 10);
        due("an open one holds nothing", x.available(1, 0), 10);
        int b = Moves.held(x, 1, 2, 0, 3);
        int c = Moves.held(x, 1, 2, 0, 3);
        int d = Moves.held(x, 1, 3, 0, 4);
        due("three hold all", x.available(1, 0), 0);
        x.free(b);
        due("a freed one holds nothing", x.available(1, 0), 3);
        x.drop(c);
        due("a dropped one holds nothing", x.available(1, 0), 6);
        x.post(d, 0);
        due("a posted one holds nothing, what it took is gone", x.available(1, 0), 6);
        due("and its stock with it", x.stock(1, 0), 6);
    }

    private static void freeNeverBelowNothing() {
        MoveRows x = new MoveRows();
        int a = Moves.posted(x, 0, 1, 0, 10, 0);
        int h = Moves.held(x, 1, 2, 0, 10);
        due("down to nothing", x.available(1, 0), 0);
        refused("no hold of one more", ROOM, () -> Moves.held(x, 1, 2, 0, 1));
        refused("no posting of one more", ROOM, () -> Moves.posted(x, 1, 2, 0, 1, 0));
        refused("no reversing of what came", ROOM, () -> x.reverse(a, 0));
        refused("no undoing of what came", ROOM, () -> x.undo(0));
        due("still nothing", x.available(1, 0), 0);
        x.post(h, 0);
        due("nothing when it was posted", x.available(1, 0), 0);
        due("OUTSIDE is below", x.available(0, 0), -10);
    }

    private static void postingDays() {
        MoveRows x = new MoveRows();
        int first = Moves.posted(x, 0, 1, 0, 1, 0);
        int last = Moves.posted(x, 0, 1, 0, 1, 1000);
        due("day 0", x.told(first, 2), 0);
        due("day 1000", x.told(last, 2), 1000);
        int open = Moves.open(x, 0, 1, 0, 1);
        for (int bad : Moves.outside(0, 1000)) {
            refused("post at " + bad, RANGE, () -> x.post(open, bad));
            refused("reverse at " + bad, RANGE, () -> x.reverse(first, bad));
            refused("undo " + bad, RANGE, () -> x.undo(bad));
            refused("close " + bad, RANGE, () -> x.close(bad));
            refused("upTo " + bad, RANGE, () -> x.upTo(1, 0, bad));
        }
        due("upTo 0", x.upTo(1, 0, 0), 1);
        due("upTo 1000", x.upTo(1, 0, 1000), 2);
        due("undo 0", x.undo(0), 1);
        due("reverse at 1000", x.reverse(last, 1000), 4);
        due("close 0", x.close(0), 1);
        due("close 1000", x.close(1000), 1000);
    }

    private static void postingSound() {
        MoveRows x = new MoveRows();
        int b = Moves.open(x, 0, 1, 0, 5);
        x.entry(b, 1, 0, 1);
        refused("one too much came", STATE, () -> x.post(b, 0));
        due("it stays open", x.told(b, 0), Moves.OPEN);
        due("nothing came", x.stock(1, 0), 0);
        due("nothing went", x.stock(0, 0), 0);
        x.entry(b, 0, 0, -1);
        done("sound now", () -> x.post(b, 0));
    }

    private static void postingNotClosed() {
        MoveRows x = new MoveRows();
        int open = Moves.open(x, 0, 1, 0, 1);
        int held = Moves.held(x, 0, 1, 0, 1);
        x.close(500);
        for (int closed : new int[] {0, 499, 500}) {
            refused("an open one at " + closed, STATE, () -> x.post(open, closed));
            refused("a held one at " + closed, STATE, () -> x.post(held, closed));
        }
        due("still open", x.told(open, 0), Moves.OPEN);
        due("still held", x.told(held, 0), Moves.HELD);
        done("an open one the day after", () -> x.post(open, 501));
        done("a held one the day after", () -> x.post(held, 501));
        x.close(1000);
        int late = Moves.open(x, 0, 1, 0, 1);
        refused("no day is left", STATE, () -> x.post(late, 1000));
    }

    private static void postingNet() {
        MoveRows x = new MoveRows();
        Moves.posted(x, 0, 1, 0, 10, 0);
        Moves.held(x, 1, 2, 0, 4);
        int more = Moves.open(x, 1, 3, 0, 7);
        refused("one more than is free", ROOM, () -> x.post(more, 0));
        due("stock would do", x.stock(1, 0), 10);
        int all = Moves.open(x, 1, 3, 0, 6);
        done("all that is free", () -> x.post(all, 0));
        due("what is held stays", x.stock(1, 0), 4);
        due("none is free", x.available(1, 0), 0);
    }

    private static void postingOwnHold() {
        MoveRows x = new MoveRows();
        Moves.posted(x, 0, 1, 0, 10, 0);
        int b = Moves.held(x, 1, 2, 0, 10);
        due("none is free", x.available(1, 0), 0);
        int c = Moves.open(x, 1, 3, 0, 1);
        refused("another's hold is not counted", ROOM, () -> x.post(c, 0));
        done("its own is", () -> x.post(b, 0));
        due("all went", x.stock(1, 0), 0);
        due("all came", x.stock(2, 0), 10);
        due("its hold is gone, the stock too", x.available(1, 0), 0);
        due("none held", x.count(2), 0);
        refused("nothing is left for the other", ROOM, () -> x.post(c, 0));

        MoveRows y = new MoveRows();
        Moves.posted(y, 0, 1, 0, 10, 0);
        int first = Moves.held(y, 1, 2, 0, 5);
        int second = Moves.held(y, 1, 2, 0, 5);
        y.post(second, 0);
        due("the other hold stays", y.available(1, 0), 0);
        done("and is enough for its own batch", () -> y.post(first, 0));
        due("all went by two", y.stock(1, 0), 0);
    }

    private static void postingEveryAccount() {
        for (int account = 1; account <= 15; account++) {
            for (int lot = 0; lot <= 7; lot++) {
                MoveRows x = new MoveRows();
                Moves.posted(x, 0, account, lot, 5, 0);
                int more = Moves.open(x, account, 0, lot, 6);
                String cell = "account " + account + " lot " + lot;
                refused(cell + ", one below", ROOM, () -> x.post(more, 0));
                int all = Moves.open(x, account, 0, lot, 5);
                done(cell + ", down to nothing", () -> x.post(all, 0));
                due(cell, x.stock(account, lot), 0);
            }
        }
        MoveRows y = new MoveRows();
        Moves.posted(y, 0, 1, 0, 5, 0);
        int b = Moves.open(y, 1, 2, 0, 5);
        y.entry(b, 15, 7, -1);
        y.entry(b, 2, 7, 1);
        refused("one account of several lacks", ROOM, () -> y.post(b, 0));
        due("so nothing of it is posted", y.stock(2, 0), 0);
        done("OUTSIDE goes below", () -> Moves.posted(y, 0, 2, 7, 1000000, 0));
    }

    private static void postingAllInOrder() {
        MoveRows x = new MoveRows();
        int[] amounts = {8, -1, -2, 3, -4, 5, -6, -3};
        int b = x.batch();
        for (int n : amounts) {
            x.entry(b, 1, 3, n);
        }
        due("none before", x.count(1), 0);
        x.post(b, 77);
        due("all eight", x.count(1), 8);
        for (int i = 0; i < 8; i++) {
            due("entry " + i, x.row(1, i, 2), amounts[i]);
            due("day of entry " + i, x.row(1, i, 3), 77);
        }
        refused("no ninth", NONE_SUCH, () -> x.row(1, 8, 0));
        due("none the day before", x.upTo(1, 3, 76), 0);
    }

    private static void reversingPosted() {
        MoveRows x = new MoveRows();
        int open = Moves.open(x, 0, 1, 0, 1);
        int held = Moves.held(x, 0, 1, 0, 1);
        int dropped = Moves.dropped(x, 0, 1, 0, 1);
        int reversed = Moves.reversed(x, 0, 1, 0, 1, 0);
        int posted = Moves.posted(x, 0, 1, 0, 1, 0);
        refused("an open one", STATE, () -> x.reverse(open, 0));
        refused("a held one", STATE, () -> x.reverse(held, 0));
        refused("a dropped one", STATE, () -> x.reverse(dropped, 0));
        refused("a reversed one", STATE, () -> x.reverse(reversed, 0));
        due("a posted one", x.reverse(posted, 0), 6);
        refused("not twice", STATE, () -> x.reverse(posted, 0));
    }

    private static void reversingEntries() {
        MoveRows x = new MoveRows();
        int[] amounts = {-1000000, 1000000, -1, 2, -3, 4, -5, 3};
        int b = x.batch();
        for (int i = 0; i < 8; i++) {
            x.entry(b, i % 2 == 0 ? 0 : 15, 7, amounts[i]);
        }
        x.post(b, 5);
        int r = x.reverse(b, 6);
        due("as many entries", x.told(r, 1), 8);
        for (int i = 0; i < 8; i++) {
            int cell = i % 2 == 0 ? 7 : 127;
            due("entry " + i, x.packed(r, i), -128L * amounts[i] + cell);
            due("the reversed one keeps entry " + i, x.packed(b, i), 128L * amounts[i] + cell);
        }
        refused("no entry more", NONE_SUCH, () -> x.packed(r, 8));
        for (int i = 0; i < 4; i++) {
            due("OUTSIDE's row " + (4 + i), x.row(0, 4 + i, 2), -amounts[2 * i]);
            due("the container's row " + (4 + i), x.row(15, 4 + i, 2), -amounts[2 * i + 1]);
        }
    }

    private static void reversingIfItMay() {
        MoveRows x = new MoveRows();
        int a = Moves.posted(x, 0, 1, 0, 10, 3);
        int gone = Moves.posted(x, 1, 2, 0, 1, 3);
        refused("one is gone", ROOM, () -> x.reverse(a, 3));
        due("it stays posted", x.told(a, 0), Moves.POSTED);
        x.reverse(gone, 3);
        int held = Moves.held(x, 1, 2, 0, 1);
        refused("one is held", ROOM, () -> x.reverse(a, 3));
        x.drop(held);
        int r = x.reverse(a, 4);
        due("all is there", x.stock(1, 0), 0);
        due("at the day", x.told(r, 2), 4);
        due("not before", x.upTo(1, 0, 3), 10);
        due("from that day on", x.upTo(1, 0, 4), 0);
        due("the stock of OUTSIDE is no bound", x.reverse(r, 4), r + 1);
    }

    private static void reversingStates() {
        MoveRows x = new MoveRows();
        int a = Moves.posted(x, 0, 1, 0, 10, 3);
        int b = Moves.posted(x, 0, 1, 0, 10, 3);
        int r = x.reverse(a, 3);
        due("the one", x.told(a, 0), Moves.REVERSED);
        due("the other", x.told(r, 0), Moves.POSTED);
        due("no third", x.told(b, 0), Moves.POSTED);
    }

    private static void reversingDay() {
        MoveRows x = new MoveRows();
        int a = Moves.posted(x, 0, 1, 0, 10, 500);
        refused("the day before", STATE, () -> x.reverse(a, 499));
        refused("day 0", STATE, () -> x.reverse(a, 0));
        int same = x.reverse(a, 500);
        due("the same day", x.told(same, 2), 500);
        int later = x.reverse(same, 501);
        due("the day after", x.told(later, 2), 501);
        refused("the reversing one's own day counts", STATE, () -> x.reverse(later, 500));
        due("the last day", x.told(x.reverse(later, 1000), 2), 1000);

        MoveRows y = new MoveRows();
        int first = Moves.posted(y, 0, 1, 0, 10, 0);
        due("day 0 for one of day 0", y.reverse(first, 0), 1);
        int last = Moves.posted(y, 0, 1, 0, 10, 1000);
        refused("day 999 for one of day 1000", STATE, () -> y.reverse(last, 999));
    }

    private static void closingUpTo() {
        MoveRows x = new MoveRows();
        int early = Moves.posted(x, 0, 1, 0, 1, 0);
        int open = Moves.open(x, 0, 1, 0, 1);
        x.close(2);
        for (int day = 0; day <= 2; day++) {
            int closed = day;
            refused("posting at " + day, STATE, () -> x.post(open, closed));
            refused("reversing at " + day, STATE, () -> x.reverse(early, closed));
            refused("undoing " + day, STATE, () -> x.undo(closed));
        }
        due("undoing the day after", x.undo(3), 0);
        due("reversing the day after", x.reverse(early, 3), 2);
        done("posting the day after", () -> x.post(open, 3));
        due("an earlier one is closed already", x.close(1), 0);
        refused("closing an earlier one opens none", STATE, () -> x.undo(2));
    }
}
