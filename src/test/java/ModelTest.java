import java.util.Map;
import java.util.Random;
import java.util.TreeMap;
import java.util.concurrent.Callable;

/** Runs of at most 512 made-up calls, the same at every time, on the class and on the slow model. */
public final class ModelTest {
    private static final int RUNS = 1500;
    private static final int CALLS = 512;
    private static final int MOST_LOOKED_AT_LAST = 300;
    private static final int MOST_CALLS_OF_A_MOVE = 11;
    private static final int[] WILD = {Integer.MIN_VALUE, -1, 0, 8, 16, 40, 1000, 1001, Integer.MAX_VALUE};

    private static final Checks checks = new Checks();
    /** How often each answer came: a run that only gets refusals would test little. */
    private static final Map<String, Integer> seen = new TreeMap<>();

    private final Random random;
    private final MoveRows rows = new MoveRows();
    private final Model model = new Model();
    private final String name;
    private final int accounts;
    private final int lots;
    private final int days;
    private int made = 0;

    private ModelTest(int seed) {
        random = new Random(seed);
        name = "run " + seed;
        // With few accounts and lots the batches meet often, with many they reach all of them.
        accounts = random.nextInt(3) == 0 ? 16 : 2 + random.nextInt(4);
        lots = random.nextInt(3) == 0 ? 8 : 1 + random.nextInt(2);
        days = 1 + random.nextInt(6);
    }

    public static void main(String[] args) {
        for (int seed = 0; seed < RUNS; seed++) {
            new ModelTest(seed).run();
        }
        checkAllKindsCame();
        checks.end("ModelTest");
    }

    private void run() {
        int last = CALLS - random.nextInt(MOST_LOOKED_AT_LAST);
        while (made + MOST_CALLS_OF_A_MOVE <= last) {
            someCall();
        }
        lookAtAll(random.nextInt(3));
    }

    private void same(String call, Callable<? extends Number> mine, Callable<? extends Number> due) {
        made++;
        String want = Checks.answer(due);
        checks.dueText(name + ", call " + made + ": " + call, Checks.answer(mine), want);
        String kind = call.substring(0, call.indexOf('(')) + (want.startsWith("throws") ? " " + want : " answers");
        seen.merge(kind, 1, Integer::sum);
    }

    private void sameStep(String call, Checks.Step mine, Checks.Step due) {
        same(call, () -> { mine.run(); return 0; }, () -> { due.run(); return 0; });
    }

    private int mostly(int low, int bound) {
        return random.nextInt(40) == 0 ? WILD[random.nextInt(WILD.length)] : low + random.nextInt(bound);
    }

    private int someBatch() {
        int bound = Math.max(1, model.count(0));
        // The newest batches are the ones that are still open.
        return random.nextBoolean() ? mostly(Math.max(0, bound - 3), Math.min(3, bound)) : mostly(0, bound);
    }

    private int someAmount() {
        int kind = random.nextInt(20);
        if (kind == 0) {
            return mostly(-1000001, 2000003);
        }
        return kind == 1 ? mostly(999999, 3) : mostly(-12, 25);
    }

    private void someCall() {
        int kind = random.nextInt(100);
        if (kind < 12) {
            move();
        } else if (kind < 14) {
            same("batch()", rows::batch, model::batch);
        } else if (kind < 24) {
            entry(someBatch(), mostly(0, accounts), mostly(0, lots), someAmount());
        } else if (kind < 36) {
            post(someBatch(), mostly(0, days));
        } else if (kind < 60) {
            changeBatch(random.nextInt(4));
        } else if (kind < 64) {
            int day = mostly(0, days);
            same("undo(" + day + ")", () -> rows.undo(day), () -> model.undo(day));
        } else if (kind < 65) {
            int day = random.nextInt(8) == 0 ? mostly(0, days) : mostly(-1, 2);
            same("close(" + day + ")", () -> rows.close(day), () -> model.close(day));
        } else if (kind < 70) {
            int container = mostly(10, 6);
            int place = mostly(1, 9);
            same("carry(" + container + ", " + place + ")",
                    () -> rows.carry(container, place), () -> model.carry(container, place));
        } else {
            look(random.nextInt(8));
        }
    }

    /** A sound batch, for made-up entries seldom sum to nothing. */
    private void move() {
        int b = model.count(0);
        same("batch()", rows::batch, model::batch);
        int pairs = random.nextInt(3) == 0 ? 1 + random.nextInt(4) : 1;
        for (int i = 0; i < pairs; i++) {
            int from = random.nextBoolean() ? 0 : mostly(0, accounts);
            int to = mostly(0, accounts);
            int lot = mostly(0, lots);
            int n = Math.abs(someAmount());
            entry(b, from, lot, -n);
            entry(b, to, lot, n);
        }
        if (random.nextInt(3) == 0) {
            sameStep("hold(" + b + ")", () -> rows.hold(b), () -> model.hold(b));
        }
        if (random.nextInt(3) != 0) {
            post(b, mostly(0, days));
        }
    }

    private void entry(int batch, int account, int lot, int n) {
        same("entry(" + batch + ", " + account + ", " + lot + ", " + n + ")",
                () -> rows.entry(batch, account, lot, n), () -> model.entry(batch, account, lot, n));
    }

    private void post(int batch, int day) {
        sameStep("post(" + batch + ", " + day + ")", () -> rows.post(batch, day), () -> model.post(batch, day));
    }

    private void changeBatch(int kind) {
        int b = someBatch();
        int day = mostly(0, days);
        if (kind == 0) {
            sameStep("hold(" + b + ")", () -> rows.hold(b), () -> model.hold(b));
        } else if (kind == 1) {
            sameStep("free(" + b + ")", () -> rows.free(b), () -> model.free(b));
        } else if (kind == 2 && random.nextInt(4) == 0) {
            sameStep("drop(" + b + ")", () -> rows.drop(b), () -> model.drop(b));
        } else {
            same("reverse(" + b + ", " + day + ")", () -> rows.reverse(b, day), () -> model.reverse(b, day));
        }
    }

    private void look(int kind) {
        int account = mostly(0, accounts);
        int lot = mostly(0, lots);
        int day = mostly(0, days);
        int b = someBatch();
        if (kind == 0) {
            stock(account, lot);
        } else if (kind == 1) {
            available(account, lot);
        } else if (kind == 2) {
            same("upTo(" + account + ", " + lot + ", " + day + ")",
                    () -> rows.upTo(account, lot, day), () -> model.upTo(account, lot, day));
        } else if (kind == 3) {
            at(mostly(1, 9), lot);
        } else if (kind == 4) {
            row(account, mostly(-1, 20), mostly(0, 5));
        } else if (kind == 5) {
            told(b, mostly(0, 5));
        } else if (kind == 6) {
            packed(b, mostly(0, 9));
        } else {
            int what = mostly(-1, 6);
            same("count(" + what + ")", () -> rows.count(what), () -> model.count(what));
        }
    }

    private void stock(int account, int lot) {
        same("stock(" + account + ", " + lot + ")", () -> rows.stock(account, lot), () -> model.stock(account, lot));
    }

    private void available(int account, int lot) {
        same("available(" + account + ", " + lot + ")",
                () -> rows.available(account, lot), () -> model.available(account, lot));
    }

    private void at(int place, int lot) {
        same("at(" + place + ", " + lot + ")", () -> rows.at(place, lot), () -> model.at(place, lot));
    }

    private void row(int account, int i, int what) {
        same("row(" + account + ", " + i + ", " + what + ")",
                () -> rows.row(account, i, what), () -> model.row(account, i, what));
    }

    private void told(int b, int what) {
        same("told(" + b + ", " + what + ")", () -> rows.told(b, what), () -> model.told(b, what));
    }

    private void packed(int b, int i) {
        same("packed(" + b + ", " + i + ")", () -> rows.packed(b, i), () -> model.packed(b, i));
    }

    /** The calls that are left do not reach for everything, so each run looks at one side of it. */
    private void lookAtAll(int side) {
        for (int what = 0; what < 4; what++) {
            int w = what;
            same("count(" + w + ")", () -> rows.count(w), () -> model.count(w));
        }
        if (side == 0) {
            for (int cell = 0; cell < 128 && made < CALLS - 1; cell++) {
                stock(cell / 8, cell % 8);
                available(cell / 8, cell % 8);
            }
        } else if (side == 1) {
            for (int k = 0; k < 200 && made < CALLS; k++) {
                told(k / 5, k % 5);
            }
            for (int k = 0; k < 72 && made < CALLS; k++) {
                at(1 + k / 8, k % 8);
            }
        } else {
            int account = random.nextInt(accounts);
            for (int k = 0; k < 160 && made < CALLS; k++) {
                row(account, k / 4, k % 4);
            }
            for (int k = 0; k < 320 && made < CALLS; k++) {
                packed(k / 8, k % 8);
            }
        }
    }

    private static void checkAllKindsCame() {
        String[] kinds = {
            "batch UnsupportedOperation", "entry NoSuchElement IllegalArgument IllegalState UnsupportedOperation",
            "hold NoSuchElement IllegalState UnsupportedOperation", "free NoSuchElement IllegalState",
            "drop NoSuchElement IllegalState",
            "post NoSuchElement IllegalArgument IllegalState UnsupportedOperation",
            "reverse NoSuchElement IllegalArgument IllegalState UnsupportedOperation",
            "undo IllegalArgument IllegalState UnsupportedOperation", "close IllegalArgument",
            "carry IllegalArgument IllegalState", "stock IllegalArgument", "upTo IllegalArgument",
            "available IllegalArgument", "at IllegalArgument", "row NoSuchElement IllegalArgument",
            "told NoSuchElement IllegalArgument", "packed NoSuchElement", "count"};
        for (String kind : kinds) {
            String[] words = kind.split(" ");
            checks.due(words[0] + " answered often", seen.getOrDefault(words[0] + " answers", 0) >= 300);
            for (int i = 1; i < words.length; i++) {
                String refusal = words[0] + " throws." + words[i] + "Exception";
                checks.due(refusal + " came often", seen.getOrDefault(refusal, 0) >= 50);
            }
        }
    }
}
