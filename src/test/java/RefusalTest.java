import java.util.ArrayList;
import java.util.List;
import java.util.NoSuchElementException;
import java.util.function.Supplier;

/**
 * The document's sentences on refusals: each kind of refusal in every call that has it; for each call and each two
 * refusals that can hold at once, the first of them is thrown; and after every refused call all other calls answer as
 * if it had not been made.
 */
public final class RefusalTest {
    private static final Class<NoSuchElementException> NONE_SUCH = NoSuchElementException.class;
    private static final Class<IllegalArgumentException> RANGE = IllegalArgumentException.class;
    private static final Class<IllegalStateException> STATE = IllegalStateException.class;
    private static final Class<UnsupportedOperationException> ROOM = UnsupportedOperationException.class;

    /** A call on an object, for what it answers. */
    interface Call {
        long on(MoveRows x);
    }

    /** A call on an object without an answer. */
    interface Act {
        void on(MoveRows x);
    }

    record Refusal(String name, Class<? extends Exception> due, Act act) { }

    // The batches of stage(), by what they are there for.
    private static final int POSTED = 0;
    private static final int FULL = 2;
    private static final int HELD = 3;
    private static final int DROPPED = 4;
    private static final int REVERSED = 5;
    private static final int REVERSING = 6;
    private static final int EMPTY = 7;
    private static final int LACKING = 8;
    private static final int COVERED = 9;
    private static final int TAKEN = 10;
    private static final int UNSOUND_LACKING = 12;
    private static final int BEFORE_CLOSING = 13;
    private static final int DROPPED_FULL = 14;
    private static final int DROPPED_LACKING = 15;
    private static final int STAGED = 16;

    private static final Checks checks = new Checks();

    public static void main(String[] args) {
        kinds();
        order("entry", RefusalTest::stage, entryOrder());
        order("hold, free, drop", RefusalTest::stage, holdOrder());
        order("post", RefusalTest::stage, postOrder());
        order("reverse", RefusalTest::stage, reverseOrder());
        order("reverse and undo, no room", RefusalTest::fullStage, noRoomOrder());
        order("undo", RefusalTest::stage, undoOrder());
        order("close, all is closed", RefusalTest::closedStage, closedOrder());
        order("carry", RefusalTest::stage, carryOrder());
        order("told", RefusalTest::stage, toldOrder());
        checks.sentence("16: (The account first, then i, then what.)",
                () -> refuseAll(RefusalTest::stage, rowOrder()));
        changesNothing("what comes and goes", RefusalTest::stage, changing());
        changesNothing("what is only asked", RefusalTest::stage, asking());
        changesNothing("with forty batches", RefusalTest::fullStage, changingWithoutRoom());
        changesNothing("with all days closed", RefusalTest::closedStage, closedOrder());
        checks.end("RefusalTest");
    }

    private static void kinds() {
        checks.sentence("NoSuchElementException: a batch that there is not;", () -> {
            refuseAll(RefusalTest::stage, noBatch(STAGED));
            refuseAll(RefusalTest::fullStage, noBatch(40));
            refuseAll(MoveRows::new, noBatch(0));
        });
        checks.sentence("IllegalArgumentException: another number outside its range;",
                () -> refuseAll(RefusalTest::stage, outsideItsRange()));
        checks.sentence("IllegalStateException: not as it is now;",
                () -> refuseAll(RefusalTest::stage, notAsItIsNow()));
        checks.sentence("UnsupportedOperationException: no room (batches, entries),",
                () -> refuseAll(RefusalTest::fullStage, noRoom()));
        checks.sentence("or not enough is free.", () -> refuseAll(RefusalTest::stage, notEnoughFree()));
    }

    private static void order(String calls, Supplier<MoveRows> stage, List<Refusal> refusals) {
        checks.sentence("REFUSALS, the first that holds, " + calls, () -> refuseAll(stage, refusals));
    }

    private static void refuseAll(Supplier<MoveRows> stage, List<Refusal> refusals) {
        for (Refusal r : refusals) {
            MoveRows x = stage.get();
            checks.refused(r.name, r.due, () -> r.act.on(x));
        }
    }

    /** Batches of every state and kind, containers with something in them, days 0 to 9 closed. */
    private static MoveRows stage() {
        MoveRows x = new MoveRows();
        Moves.posted(x, 0, 1, 0, 100, 10);
        int containers = x.batch();
        x.entry(containers, 0, 5, -63);
        for (int container = 10; container <= 15; container++) {
            x.entry(containers, container, 5, 1 << (container - 10));
        }
        x.post(containers, 12);
        Moves.filled(x, 8);
        Moves.held(x, 1, 2, 0, 40);
        Moves.dropped(x, 0, 3, 0, 5);
        Moves.reversed(x, 0, 3, 3, 5, 11);
        x.batch();
        Moves.open(x, 1, 2, 0, 61);
        Moves.open(x, 1, 2, 0, 60);
        Moves.posted(x, 0, 3, 1, 5, 12);
        Moves.held(x, 3, 4, 1, 1);
        x.entry(x.batch(), 9, 0, -1);
        Moves.posted(x, 0, 5, 2, 9, 4);
        x.drop(Moves.filled(x, 8));
        Moves.dropped(x, 9, 8, 0, 1000000);
        x.carry(11, 4);
        x.carry(15, 9);
        x.close(9);
        return x;
    }

    private static MoveRows fullStage() {
        MoveRows x = stage();
        Moves.batchesUpTo(x, 40);
        return x;
    }

    private static MoveRows closedStage() {
        MoveRows x = stage();
        x.close(1000);
        return x;
    }

    private static void add(List<Refusal> list, String name, Class<? extends Exception> due, Act act) {
        list.add(new Refusal(name, due, act));
    }

    /** Every call that names a batch, where there are as many. */
    private static List<Refusal> noBatch(int many) {
        List<Refusal> list = new ArrayList<>();
        for (int bad : Moves.outside(0, many - 1)) {
            add(list, "entry, batch " + bad, NONE_SUCH, x -> x.entry(bad, 0, 0, 1));
            add(list, "hold, batch " + bad, NONE_SUCH, x -> x.hold(bad));
            add(list, "free, batch " + bad, NONE_SUCH, x -> x.free(bad));
            add(list, "drop, batch " + bad, NONE_SUCH, x -> x.drop(bad));
            add(list, "post, batch " + bad, NONE_SUCH, x -> x.post(bad, 12));
            add(list, "reverse, batch " + bad, NONE_SUCH, x -> x.reverse(bad, 12));
            add(list, "told, batch " + bad, NONE_SUCH, x -> x.told(bad, 0));
            add(list, "packed, batch " + bad, NONE_SUCH, x -> x.packed(bad, 0));
        }
        return list;
    }

    private static List<Refusal> outsideItsRange() {
        List<Refusal> list = new ArrayList<>();
        for (int bad : Moves.outside(0, 15)) {
            add(list, "entry, account " + bad, RANGE, x -> x.entry(EMPTY, bad, 0, 1));
            add(list, "stock, account " + bad, RANGE, x -> x.stock(bad, 0));
            add(list, "upTo, account " + bad, RANGE, x -> x.upTo(bad, 0, 12));
            add(list, "available, account " + bad, RANGE, x -> x.available(bad, 0));
            add(list, "row, account " + bad, RANGE, x -> x.row(bad, 0, 0));
        }
        for (int bad : Moves.outside(0, 7)) {
            add(list, "entry, lot " + bad, RANGE, x -> x.entry(EMPTY, 0, bad, 1));
            add(list, "stock, lot " + bad, RANGE, x -> x.stock(0, bad));
            add(list, "upTo, lot " + bad, RANGE, x -> x.upTo(0, bad, 12));
            add(list, "available, lot " + bad, RANGE, x -> x.available(0, bad));
            add(list, "at, lot " + bad, RANGE, x -> x.at(1, bad));
        }
        for (int bad : Moves.outside(0, 1000)) {
            add(list, "post, day " + bad, RANGE, x -> x.post(COVERED, bad));
            add(list, "reverse, day " + bad, RANGE, x -> x.reverse(POSTED, bad));
            add(list, "undo, day " + bad, RANGE, x -> x.undo(bad));
            add(list, "close, day " + bad, RANGE, x -> x.close(bad));
            add(list, "upTo, day " + bad, RANGE, x -> x.upTo(0, 0, bad));
        }
        for (int bad : Moves.outside(1, 9)) {
            add(list, "carry, place " + bad, RANGE, x -> x.carry(10, bad));
            add(list, "at, place " + bad, RANGE, x -> x.at(bad, 0));
        }
        for (int bad : Moves.outside(10, 15)) {
            add(list, "carry, container " + bad, RANGE, x -> x.carry(bad, 2));
        }
        for (int bad : Moves.outside(-1000000, 1000000)) {
            add(list, "entry, amount " + bad, RANGE, x -> x.entry(EMPTY, 0, 0, bad));
        }
        for (int bad : Moves.outside(0, 3)) {
            add(list, "row, what " + bad, RANGE, x -> x.row(0, 0, bad));
        }
        for (int bad : Moves.outside(0, 4)) {
            add(list, "told, what " + bad, RANGE, x -> x.told(0, bad));
        }
        return list;
    }

    private static List<Refusal> notAsItIsNow() {
        List<Refusal> list = new ArrayList<>();
        for (int batch : new int[] {HELD, POSTED, REVERSED, REVERSING, DROPPED}) {
            add(list, "entry, batch " + batch, STATE, x -> x.entry(batch, 0, 0, 1));
            add(list, "hold, batch " + batch, STATE, x -> x.hold(batch));
        }
        for (int batch : new int[] {COVERED, POSTED, REVERSED, REVERSING, DROPPED}) {
            add(list, "free, batch " + batch, STATE, x -> x.free(batch));
        }
        for (int batch : new int[] {POSTED, REVERSED, REVERSING, DROPPED}) {
            add(list, "drop, batch " + batch, STATE, x -> x.drop(batch));
            add(list, "post, batch " + batch, STATE, x -> x.post(batch, 12));
        }
        for (int batch : new int[] {HELD, COVERED, REVERSED, DROPPED}) {
            add(list, "reverse, batch " + batch, STATE, x -> x.reverse(batch, 12));
        }
        add(list, "hold, empty", STATE, x -> x.hold(EMPTY));
        add(list, "hold, not sound", STATE, x -> x.hold(FULL));
        add(list, "post, empty", STATE, x -> x.post(EMPTY, 12));
        add(list, "post, not sound", STATE, x -> x.post(FULL, 12));
        add(list, "post, closed", STATE, x -> x.post(COVERED, 9));
        add(list, "post, held, closed", STATE, x -> x.post(HELD, 9));
        add(list, "reverse, closed", STATE, x -> x.reverse(BEFORE_CLOSING, 9));
        add(list, "reverse, before its own", STATE, x -> x.reverse(REVERSING, 10));
        add(list, "undo, closed", STATE, x -> x.undo(9));
        add(list, "carry, it stands there", STATE, x -> x.carry(11, 4));
        return list;
    }

    private static List<Refusal> noRoom() {
        List<Refusal> list = new ArrayList<>();
        add(list, "batch", ROOM, MoveRows::batch);
        add(list, "entry", ROOM, x -> x.entry(FULL, 0, 0, 1));
        add(list, "reverse", ROOM, x -> x.reverse(BEFORE_CLOSING, 10));
        add(list, "undo", ROOM, x -> {
            x.post(COVERED, 1000);
            x.undo(1000);
        });
        return list;
    }

    private static List<Refusal> notEnoughFree() {
        List<Refusal> list = new ArrayList<>();
        add(list, "hold", ROOM, x -> x.hold(LACKING));
        add(list, "post", ROOM, x -> x.post(LACKING, 12));
        add(list, "reverse", ROOM, x -> x.reverse(TAKEN, 12));
        add(list, "undo", ROOM, x -> x.undo(12));
        return list;
    }

    private static List<Refusal> entryOrder() {
        List<Refusal> list = new ArrayList<>();
        add(list, "no batch, no account", NONE_SUCH, x -> x.entry(STAGED, 16, 0, 1));
        add(list, "no batch, no lot", NONE_SUCH, x -> x.entry(STAGED, 0, 8, 1));
        add(list, "no batch, no amount", NONE_SUCH, x -> x.entry(-1, 0, 0, 0));
        for (int batch : new int[] {HELD, POSTED, REVERSED, REVERSING, DROPPED, DROPPED_FULL, FULL}) {
            add(list, "no account, batch " + batch, RANGE, x -> x.entry(batch, -1, 0, 1));
            add(list, "no lot, batch " + batch, RANGE, x -> x.entry(batch, 0, -1, 1));
            add(list, "no amount, batch " + batch, RANGE, x -> x.entry(batch, 0, 0, 0));
        }
        add(list, "dropped and full", STATE, x -> x.entry(DROPPED_FULL, 0, 0, 1));
        add(list, "full alone", ROOM, x -> x.entry(FULL, 0, 0, 1));
        return list;
    }

    private static List<Refusal> holdOrder() {
        List<Refusal> list = new ArrayList<>();
        add(list, "hold: not sound and lacking", STATE, x -> x.hold(UNSOUND_LACKING));
        add(list, "hold: dropped and lacking", STATE, x -> x.hold(DROPPED_LACKING));
        add(list, "hold: lacking alone", ROOM, x -> x.hold(LACKING));
        add(list, "hold: no batch", NONE_SUCH, x -> x.hold(STAGED));
        add(list, "free: no batch", NONE_SUCH, x -> x.free(STAGED));
        add(list, "drop: no batch", NONE_SUCH, x -> x.drop(STAGED));
        return list;
    }

    private static List<Refusal> postOrder() {
        List<Refusal> list = new ArrayList<>();
        add(list, "no batch, no day", NONE_SUCH, x -> x.post(STAGED, 1001));
        add(list, "no batch, closed", NONE_SUCH, x -> x.post(-1, 0));
        for (int batch : new int[] {POSTED, DROPPED, REVERSED, REVERSING, EMPTY, UNSOUND_LACKING, LACKING, HELD}) {
            add(list, "day -1, batch " + batch, RANGE, x -> x.post(batch, -1));
            add(list, "day 1001, batch " + batch, RANGE, x -> x.post(batch, 1001));
        }
        add(list, "not sound and lacking", STATE, x -> x.post(UNSOUND_LACKING, 10));
        add(list, "closed and lacking", STATE, x -> x.post(LACKING, 9));
        add(list, "dropped and lacking", STATE, x -> x.post(DROPPED_LACKING, 10));
        add(list, "lacking alone", ROOM, x -> x.post(LACKING, 10));
        return list;
    }

    private static List<Refusal> reverseOrder() {
        List<Refusal> list = new ArrayList<>();
        add(list, "no batch, no day", NONE_SUCH, x -> x.reverse(STAGED, -1));
        add(list, "no batch, closed", NONE_SUCH, x -> x.reverse(-1, 0));
        for (int batch : new int[] {HELD, DROPPED, REVERSED, EMPTY, TAKEN, POSTED}) {
            add(list, "day -1, batch " + batch, RANGE, x -> x.reverse(batch, -1));
            add(list, "day 1001, batch " + batch, RANGE, x -> x.reverse(batch, 1001));
        }
        add(list, "closed and taken", STATE, x -> x.reverse(TAKEN, 9));
        add(list, "before its own and taken", STATE, x -> x.reverse(TAKEN, 11));
        add(list, "taken alone", ROOM, x -> x.reverse(TAKEN, 12));
        return list;
    }

    private static List<Refusal> noRoomOrder() {
        List<Refusal> list = new ArrayList<>();
        add(list, "reverse: no batch", NONE_SUCH, x -> x.reverse(40, 12));
        add(list, "reverse: no day", RANGE, x -> x.reverse(POSTED, 1001));
        add(list, "reverse: held", STATE, x -> x.reverse(HELD, 12));
        add(list, "reverse: reversed", STATE, x -> x.reverse(REVERSED, 12));
        add(list, "reverse: closed", STATE, x -> x.reverse(BEFORE_CLOSING, 9));
        add(list, "reverse: before its own", STATE, x -> x.reverse(TAKEN, 11));
        add(list, "reverse: no room alone", ROOM, x -> x.reverse(BEFORE_CLOSING, 10));
        add(list, "undo: no day", RANGE, x -> x.undo(1001));
        add(list, "undo: closed", STATE, x -> x.undo(4));
        add(list, "undo: no room alone", ROOM, x -> x.undo(12));
        return list;
    }

    private static List<Refusal> undoOrder() {
        List<Refusal> list = new ArrayList<>();
        add(list, "no day, would be closed", RANGE, x -> x.undo(-1));
        add(list, "no day", RANGE, x -> x.undo(1001));
        add(list, "lacking alone", ROOM, x -> x.undo(12));
        add(list, "closed and lacking", STATE, x -> {
            x.close(12);
            x.undo(12);
        });
        return list;
    }

    private static List<Refusal> closedOrder() {
        List<Refusal> list = new ArrayList<>();
        add(list, "close: day -1", RANGE, x -> x.close(-1));
        add(list, "close: day 1001", RANGE, x -> x.close(1001));
        add(list, "undo: day -1", RANGE, x -> x.undo(-1));
        add(list, "undo: day 1001", RANGE, x -> x.undo(1001));
        add(list, "undo: closed", STATE, x -> x.undo(1000));
        add(list, "post: day 1001", RANGE, x -> x.post(COVERED, 1001));
        add(list, "post: closed", STATE, x -> x.post(COVERED, 1000));
        add(list, "post: held, closed", STATE, x -> x.post(HELD, 1000));
        add(list, "reverse: day 1001", RANGE, x -> x.reverse(BEFORE_CLOSING, 1001));
        add(list, "reverse: closed", STATE, x -> x.reverse(BEFORE_CLOSING, 1000));
        return list;
    }

    private static List<Refusal> carryOrder() {
        List<Refusal> list = new ArrayList<>();
        add(list, "no container, the first place", RANGE, x -> x.carry(9, 1));
        add(list, "no container, no place", RANGE, x -> x.carry(16, 10));
        add(list, "no place", RANGE, x -> x.carry(10, 0));
        add(list, "it stands there alone", STATE, x -> x.carry(15, 9));
        return list;
    }

    private static List<Refusal> toldOrder() {
        List<Refusal> list = new ArrayList<>();
        add(list, "no batch, no what", NONE_SUCH, x -> x.told(STAGED, 5));
        add(list, "batch -1, what -1", NONE_SUCH, x -> x.told(-1, -1));
        add(list, "no what alone", RANGE, x -> x.told(POSTED, 5));
        return list;
    }

    private static List<Refusal> rowOrder() {
        List<Refusal> list = new ArrayList<>();
        add(list, "no account, no i, no what", RANGE, x -> x.row(16, 99, 4));
        add(list, "no account, no i", RANGE, x -> x.row(-1, -1, 0));
        add(list, "no account, no what", RANGE, x -> x.row(16, 0, 4));
        add(list, "no i, no what", NONE_SUCH, x -> x.row(1, 1, 4));
        add(list, "i -1, what -1", NONE_SUCH, x -> x.row(1, -1, -1));
        add(list, "no i alone", NONE_SUCH, x -> x.row(1, 1, 0));
        add(list, "no what alone", RANGE, x -> x.row(1, 0, 4));
        return list;
    }

    private static List<Refusal> changing() {
        List<Refusal> list = new ArrayList<>();
        list.addAll(entryOrder());
        list.addAll(holdOrder());
        list.addAll(postOrder());
        list.addAll(reverseOrder());
        list.addAll(notAsItIsNow());
        list.addAll(notEnoughFree());
        list.addAll(carryOrder());
        add(list, "undo: no day", RANGE, x -> x.undo(1001));
        add(list, "close: no day", RANGE, x -> x.close(1001));
        return list;
    }

    private static List<Refusal> asking() {
        List<Refusal> list = new ArrayList<>();
        add(list, "stock: no account", RANGE, x -> x.stock(16, 0));
        add(list, "stock: no lot", RANGE, x -> x.stock(0, 8));
        add(list, "upTo: no account", RANGE, x -> x.upTo(16, 0, 0));
        add(list, "upTo: no lot", RANGE, x -> x.upTo(0, 8, 0));
        add(list, "upTo: no day", RANGE, x -> x.upTo(0, 0, 1001));
        add(list, "available: no account", RANGE, x -> x.available(16, 0));
        add(list, "available: no lot", RANGE, x -> x.available(0, 8));
        add(list, "at: no place", RANGE, x -> x.at(10, 0));
        add(list, "at: no lot", RANGE, x -> x.at(1, 8));
        list.addAll(rowOrder());
        list.addAll(toldOrder());
        add(list, "packed: no batch", NONE_SUCH, x -> x.packed(STAGED, 0));
        add(list, "packed: no entry", NONE_SUCH, x -> x.packed(EMPTY, 0));
        return list;
    }

    private static List<Refusal> changingWithoutRoom() {
        List<Refusal> list = noRoomOrder();
        add(list, "batch", ROOM, MoveRows::batch);
        add(list, "entry: full", ROOM, x -> x.entry(FULL, 0, 0, 1));
        return list;
    }

    /** Every question is put to an object of its own, so that none is used for more than 512 calls. */
    private static void changesNothing(String which, Supplier<MoveRows> stage, List<Refusal> refusals) {
        checks.sentence("What is refused changes nothing, " + which, () -> {
            List<Call> questions = questions();
            List<String> before = new ArrayList<>();
            for (Call question : questions) {
                before.add(answer(stage.get(), question));
            }
            for (Refusal r : refusals) {
                for (int q = 0; q < questions.size(); q++) {
                    MoveRows x = stage.get();
                    checks.refused(r.name, r.due, () -> r.act.on(x));
                    checks.dueText(r.name + ", then question " + q, answer(x, questions.get(q)), before.get(q));
                }
            }
        });
    }

    private static String answer(MoveRows x, Call call) {
        return Checks.answer(() -> call.on(x));
    }

    private static List<Call> questions() {
        List<Call> list = new ArrayList<>();
        addReadings(list);
        for (int b = 0; b <= STAGED; b++) {
            addChangesOf(list, b);
        }
        list.add(x -> x.batch());
        for (int day : new int[] {9, 10, 11, 12, 13, 1000}) {
            list.add(x -> x.undo(day));
            list.add(x -> x.close(day));
        }
        for (int container = 10; container <= 15; container++) {
            for (int place : new int[] {1, 4, 9}) {
                int c = container;
                list.add(x -> x.carry(c, place));
            }
        }
        return list;
    }

    private static void addReadings(List<Call> list) {
        list.add(x -> sum(4, i -> x.count(i)));
        list.add(x -> sum(200, i -> x.told(i / 5, i % 5)));
        list.add(x -> sum(320, i -> x.packed(i / 8, i % 8)));
        list.add(x -> sum(128, i -> x.stock(i / 8, i % 8)));
        list.add(x -> sum(128, i -> x.available(i / 8, i % 8)));
        list.add(x -> sum(72, i -> x.at(1 + i / 8, i % 8)));
        list.add(x -> sum(256, i -> x.row(i / 16, i / 4 % 4, i % 4)));
        for (int day : new int[] {4, 9, 10, 11, 12, 1000}) {
            list.add(x -> sum(128, i -> x.upTo(i / 8, i % 8, day)));
        }
    }

    private static void addChangesOf(List<Call> list, int b) {
        list.add(x -> x.entry(b, 1, 1, 1));
        list.add(x -> changed(x, b, () -> x.hold(b)));
        list.add(x -> changed(x, b, () -> x.free(b)));
        list.add(x -> changed(x, b, () -> x.drop(b)));
        for (int day : new int[] {9, 10, 12}) {
            list.add(x -> changed(x, b, () -> x.post(b, day)));
            list.add(x -> x.reverse(b, day));
        }
    }

    private static long changed(MoveRows x, int batch, Checks.Step step) {
        step.run();
        return sum(128, i -> x.available(i / 8, i % 8)) * 8 + x.told(batch, 0);
    }

    /** A part of a longer question, by its number. */
    interface Part {
        long at(int i);
    }

    /** One number that tells all answers and refusals of a row of questions. */
    private static long sum(int many, Part part) {
        long sum = 0;
        for (int i = 0; i < many; i++) {
            int at = i;
            sum = sum * 1000003 + Checks.answer(() -> part.at(at)).hashCode();
        }
        return sum;
    }
}
