import java.util.HashMap;
import java.util.Map;
import java.util.Random;
import java.util.TreeMap;

/**
 * Runs of 512 calls drawn from numbered seeds, the same every time: the program and PlainModel answer alike,
 * no two servers lead in one term, and an entry that counts is never another one later.
 */
public final class RandomRunsTest {
    private static final int RUNS = 24000;
    /** The document leaves free what an object answers behind these, so looks must be among them. */
    private static final int CALLS = 512;
    private static final int LOOKS_AT_THE_END = 48;
    /** How many in a hundred calls are looks: with many, short runs are seen well; with few, long ones are made. */
    private static final int[] LOOKS = {3, 20, 50, 75};
    /**
     * How often each call of step() is drawn: some of all, many elections, many reads, and long logs
     * (the leader alone compacts, so that those who follow come to their limits).
     */
    private static final int[][] WEIGHTS = {
        {60, 3, 4, 10, 4, 4, 3, 2, 1, 3, 2, 2},
        {60, 9, 1, 6, 2, 1, 1, 1, 1, 3, 4, 0},
        {60, 2, 1, 2, 1, 12, 1, 0, 0, 2, 0, 12},
        {60, 1, 0, 14, 0, 0, 8, 0, 0, 1, 0, 0},
    };
    private static final int LONG_LOGS = 3;
    /** What the runs must have come by, or they would say little. */
    private static final String[] MUST_SEE = {
        "elected", "change", "left as a leader", "lost in a full row", "log too long to add",
        "log too long to ask", "log full", "read answered", "read failed", "four reads", "sixty reads",
        "read in an open term", "came to one that is down", "a no with a greater term", "question true",
        "question false", "call true", "call false", "append with another term before",
        "append too far ahead", "entry passed over", "log cut away", "install at the end",
        "install keeps entries", "install empties", "install too late",
    };

    private final Random random;
    private final int[] weights = new int[12];
    private final int looks;
    private final QuorumLog x;
    private final PlainModel model;
    private final Map<Integer, Integer> leaderOfTerm = new HashMap<>();
    private final Map<Integer, PlainModel.Entry> counted = new HashMap<>();
    private String call = "";
    private int calls;

    private RandomRunsTest(long seed) {
        // Seeds that follow each other would begin with nearly the same draws.
        random = new Random(seed * 0x9E3779B97F4A7C15L);
        int style = (int) (seed % WEIGHTS.length);
        for (int i = 0; i < weights.length; i++) {
            weights[i] = random.nextInt(2 * WEIGHTS[style][i] + 1);
        }
        weights[0] += WEIGHTS[style][0];
        weights[1] += 1;
        int members = random.nextInt(4) == 0 ? random.nextInt() : new int[] {3, 7, 15, 31}[random.nextInt(4)];
        if (style == LONG_LOGS) {
            members = 3;
        }
        looks = style == LONG_LOGS ? LOOKS[0] : LOOKS[random.nextInt(LOOKS.length)];
        x = new QuorumLog(members);
        model = new PlainModel(members);
    }

    private int anyServer() {
        return random.nextInt(40) == 0 ? random.nextInt(9) - 2 : random.nextInt(5);
    }

    private int leaderMostly() {
        int from = random.nextInt(5);
        for (int i = 0; i < 5 && random.nextInt(12) > 0; i++) {
            if (model.state((from + i) % 5, 0) == 3) {
                return (from + i) % 5;
            }
        }
        return anyServer();
    }

    private int anyKey() {
        return random.nextInt(30) == 0 ? random.nextInt(9) - 2 : random.nextInt(4);
    }

    private int anyPlace() {
        int many = model.waiting();
        if (many == 0 || random.nextInt(50) == 0) {
            return random.nextInt(60) - 5;
        }
        return random.nextInt(3) == 0 ? random.nextInt(many) : 0;
    }

    private int draw() {
        int sum = 0;
        for (int w : weights) {
            sum += w;
        }
        int left = random.nextInt(sum);
        for (int i = 0; i < weights.length; i++) {
            left -= weights[i];
            if (left < 0) {
                return i;
            }
        }
        return 0;
    }

    private static long one(boolean b) {
        return b ? 1 : 0;
    }

    private static Object answer(Checks.Call call) {
        try {
            return call.make();
        } catch (IllegalArgumentException | IllegalStateException | UnsupportedOperationException e) {
            return e.getClass().getSimpleName();
        }
    }

    private void both(String told, Checks.Call ours, Checks.Call theirs) {
        call = told;
        calls++;
        Object got = answer(ours);
        Object due = answer(theirs);
        if (!got.equals(due)) {
            throw new AssertionError(told + " answered " + got + ", due is " + due);
        }
    }

    private void step() {
        int s = anyServer();
        int l = leaderMostly();
        int k = anyPlace();
        int key = anyKey();
        int number = random.nextInt();
        boolean joins = random.nextBoolean();
        switch (draw()) {
            case 0 -> both("deliver(" + k + ")", () -> x.deliver(k), () -> model.deliver(k));
            case 1 -> both("timer(" + s + ")", () -> one(x.timer(s)), () -> one(model.timer(s)));
            case 2 -> both("beat(" + l + ")", () -> one(x.beat(l)), () -> one(model.beat(l)));
            case 3 -> both("put(" + l + ", " + key + ", " + number + ")",
                    () -> x.put(l, key, number), () -> model.put(l, key, number));
            case 4 -> both("change(" + l + ", " + s + ", " + joins + ")",
                    () -> x.change(l, s, joins), () -> model.change(l, s, joins));
            case 5, 11 -> both("read(" + l + ", " + key + ")", () -> x.read(l, key), () -> model.read(l, key));
            case 6 -> both("compact(" + l + ")", () -> one(x.compact(l)), () -> one(model.compact(l)));
            case 7 -> both("compact(" + s + ")", () -> one(x.compact(s)), () -> one(model.compact(s)));
            case 8 -> both("crash(" + s + ")", () -> one(x.crash(s)), () -> one(model.crash(s)));
            case 9 -> both("restart(" + s + ")", () -> one(x.restart(s)), () -> one(model.restart(s)));
            default -> both("lose(" + k + ")", () -> one(x.lose(k)), () -> one(model.lose(k)));
        }
    }

    private void same(String told, int got, int due) {
        calls++;
        if (got != due) {
            throw new AssertionError(told + " answered " + got + ", due is " + due + " (behind " + call + ")");
        }
    }

    /** One of from - 1 .. to + 1: also the nearest ones that there are not. */
    private int about(int from, int to) {
        return from - 1 + random.nextInt(to - from + 3);
    }

    private void look() {
        int s = about(0, 4);
        int k = about(0, model.waiting() - 1);
        int index = about(model.state(s, 4), model.state(s, 5));
        int key = about(0, 3);
        int read = about(0, model.reads.size() - 1);
        int what = random.nextInt(20) == 0 ? about(0, 8) : random.nextInt(9);
        switch (random.nextInt(12)) {
            case 0 -> same("waiting()", x.waiting(), model.waiting());
            case 1, 2, 3 -> same("message(" + k + ", " + what + ")", x.message(k, what), model.message(k, what));
            case 4, 5, 6 -> same("state(" + s + ", " + what + ")", x.state(s, what), model.state(s, what));
            case 7, 8 -> same("entry(" + s + ", " + index + ", " + what / 2 + ")",
                    x.entry(s, index, what / 2), model.entry(s, index, what / 2));
            case 9 -> same("stored(" + s + ", " + key + ")", x.stored(s, key), model.stored(s, key));
            case 10 -> same("outcome(" + read + ")", x.outcome(read), model.outcome(read));
            default -> same("value(" + read + ")", x.value(read), model.value(read));
        }
    }

    /** Looks at the model: what the program answers is the same. */
    private void lookAtSafety() {
        for (int s = 0; s < 5; s++) {
            if (model.state(s, 0) == 3) {
                Integer other = leaderOfTerm.putIfAbsent(model.state(s, 1), s);
                if (other != null && other != s) {
                    throw new AssertionError("two leaders in term " + model.state(s, 1) + " (behind " + call + ")");
                }
            }
            for (int index = model.state(s, 4) + 1; index <= model.state(s, 3); index++) {
                PlainModel.Entry entry = model.servers[s].log.get(index);
                PlainModel.Entry other = counted.putIfAbsent(index, entry);
                if (other != null && !other.equals(entry)) {
                    throw new AssertionError("two entries count at " + index + " (behind " + call + ")");
                }
            }
        }
    }

    private void run() {
        while (calls < CALLS) {
            if (calls >= CALLS - LOOKS_AT_THE_END || random.nextInt(100) < looks) {
                look();
            } else {
                step();
            }
            if (calls % 8 == 0) {
                lookAtSafety();
            }
        }
    }

    public static void main(String[] args) {
        Checks checks = new Checks("RandomRunsTest");
        TreeMap<String, Integer> seen = new TreeMap<>();
        for (long seed = 1; seed <= RUNS; seed++) {
            RandomRunsTest one = new RandomRunsTest(seed);
            try {
                one.run();
            } catch (AssertionError | RuntimeException e) {
                System.out.println("seed " + seed + ": " + e);
                checks.same("runs that went wrong", 1, 0);
            }
            one.model.seen.forEach((what, times) -> seen.merge(what, times, Integer::sum));
        }
        if (args.length > 0) {
            System.out.println(seen);
        }
        for (String what : MUST_SEE) {
            checks.yes("the runs came by: " + what, seen.containsKey(what));
        }
        checks.end();
    }
}
