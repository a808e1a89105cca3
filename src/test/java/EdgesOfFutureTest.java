/** Each sentence that names an edge in promises 37 to 42, 44, 50 to 52, 56 and 57. */
final class EdgesOfFutureTest {
    private static final Checks CHECKS = new Checks();
    private static final int LEAST = Integer.MIN_VALUE;
    private static final int GREATEST = Integer.MAX_VALUE;
    private static final String[] NAMES = {"37: sizeIn", "38: missedIn", "39: costIn", "40: missesIn", "41: bestPolicy",
        "42: bestTarget", "44: needed", "50: changesIn", "51: settlesIn", "52: bestCool", "56: greatestIn", "57: errorsWith"};

    public static void main(String[] args) {
        refused();
        asRunningShows();
        theseTicksAlone();
        missesIn();
        settlesIn();
        changesIn();
        greatestIn();
        needed();
        bestPolicy();
        bestTarget();
        bestCool();
        asTryingShows();
        errorsWith();
        CHECKS.end();
    }

    private static long ask(int question, PoolScaler x, int pool, int ticks) {
        switch (question) {
            case 0: return x.sizeIn(pool, ticks);
            case 1: return x.missedIn(pool, ticks);
            case 2: return x.costIn(pool, ticks);
            case 3: return x.missesIn(pool, ticks);
            case 4: return x.bestPolicy(pool, ticks);
            case 5: return x.bestTarget(pool, ticks);
            case 6: return x.needed(pool, ticks);
            case 7: return x.changesIn(pool, ticks);
            case 8: return x.settlesIn(pool, ticks);
            case 9: return x.bestCool(pool, ticks);
            case 10: return x.greatestIn(pool, ticks);
            default: return x.errorsWith(pool, 0, ticks);
        }
    }

    private static void refused() {
        PoolScaler x = Checks.pools("pool 0 1 1;pool 0 1 1;");
        // What a pool answers that never has members nor demands, of 1 tick and of 300 of them.
        long[] due = {0, 0, 0, -1, 0, 10, 0, 0, 1, 0, 0, 0};
        for (int i = 0; i < NAMES.length; i++) {
            int question = i;
            for (int ticks : new int[] {0, -1, 301, LEAST, GREATEST}) {
                CHECKS.throwsArgument(NAMES[i] + ", if ticks is out of range: " + ticks, () -> ask(question, x, 1, ticks));
                CHECKS.throwsBounds(NAMES[i] + ", listed first: " + ticks, () -> ask(question, x, 2, ticks));
            }
            for (int pool : new int[] {-1, 2, 3, 4, LEAST, GREATEST}) {
                CHECKS.throwsBounds(NAMES[i] + ", if there is no such pool: " + pool, () -> ask(question, x, pool, 1));
            }
            CHECKS.due(NAMES[i] + ", 1 tick", due[i], () -> ask(question, x, 1, 1));
            CHECKS.due(NAMES[i] + ", 300 ticks", due[i], () -> ask(question, x, 1, 300));
        }
        for (int policy : new int[] {-1, 3, LEAST, GREATEST}) {
            CHECKS.throwsArgument("57: if policy is out of range: " + policy, () -> x.errorsWith(0, policy, 1));
            CHECKS.throwsArgument("57: if policy and ticks are out of range: " + policy, () -> x.errorsWith(0, policy, 0));
            CHECKS.throwsBounds("57: listed first: " + policy, () -> x.errorsWith(2, policy, 0));
        }
        CHECKS.due("57: the greatest policy", 0L, () -> x.errorsWith(0, 2, 300));
    }

    private static void asRunningShows() {
        String[] setups = {
            "pool 1 20 10;load 5 90 20 0 150 40;step 3 2;cool 2 3;window 2;",
            "pool 3 9 7;load 10 20 30 40 50 60 70;policy trend;lead 8;warm 9;drop oldest;protect 1;cost 9 2;",
            "pool 0 20 100;load 0 0 999 0;policy season 4;lead 1;cool 0 0;warm 0;target 100;cost 99 99;",
            "pool 20 20 1;load 999;"};
        for (String setup : setups) {
            for (int before : new int[] {0, 1, 30}) {
                for (int ticks : new int[] {1, 2, 8, 299, 300}) {
                    PoolScaler x = Checks.pools(setup + "pool 2 9 10;load 50 0;");
                    if (before > 0) {
                        x.run(before);
                    }
                    x.push(0, 77);
                    runsAlike(x, ticks, ", " + ticks + " ticks at " + before + " of " + setup);
                }
            }
        }
    }

    private static void runsAlike(PoolScaler x, int ticks, String which) {
        int size = x.sizeIn(0, ticks);
        long missed = x.missedIn(0, ticks) + x.missed(0);
        long cost = x.costIn(0, ticks) + x.cost(0);
        int misses = x.missesIn(0, ticks);
        int settles = x.settlesIn(0, ticks);
        int changes = x.changesIn(0, ticks);
        int otherChanges = x.changesIn(1, ticks);
        int greatest = x.greatestIn(0, ticks);
        int needed = x.needed(0, ticks);
        int firstMiss = -1;
        int firstRest = -1;
        int greatestSize = 0;
        int mostNeeded = 0;
        int eventsBefore = x.count(4);
        for (int tick = 1; tick <= ticks; tick++) {
            long missedBefore = x.missed(0);
            x.run(1);
            firstMiss = firstMiss < 0 && x.missed(0) > missedBefore ? tick : firstMiss;
            firstRest = firstRest < 0 && x.pool(0, 20) == 2 ? tick : firstRest;
            greatestSize = Math.max(greatestSize, x.pool(0, 3));
            mostNeeded = Math.max(mostNeeded, (x.demand(0, 0) + x.pool(0, 2) - 1) / x.pool(0, 2));
        }
        int[] due = {firstMiss, firstRest, greatestSize, mostNeeded, x.count(4) - eventsBefore};
        CHECKS.due("37: as running shows" + which, x.pool(0, 3), () -> size);
        CHECKS.due("38: as running shows" + which, x.missed(0), () -> missed);
        CHECKS.due("39: as running shows" + which, x.cost(0), () -> cost);
        CHECKS.due("40: as running shows" + which, due[0], () -> misses);
        CHECKS.due("51: as running shows" + which, due[1], () -> settles);
        CHECKS.due("56: as running shows" + which, due[2], () -> greatest);
        CHECKS.due("44: as running shows" + which, due[3], () -> needed);
        CHECKS.due("50: as running shows, of both pools" + which, due[4], () -> changes + otherChanges);
    }

    private static void theseTicksAlone() {
        PoolScaler x = Checks.pools("pool 1 1 10;load 11 10;cost 1 2;");
        x.run(3);
        CHECKS.due("38: the sum in these ticks: none", 0L, () -> x.missedIn(0, 1));
        CHECKS.due("39: the sum in these ticks: none is missed", 1L, () -> x.costIn(0, 1));
        CHECKS.due("38: the sum in these ticks", 1L, () -> x.missedIn(0, 2));
        CHECKS.due("39: the sum in these ticks", 1L + 3, () -> x.costIn(0, 2));
        CHECKS.due("38: in 300 ticks", 150L, () -> x.missedIn(0, 300));
        CHECKS.due("39: in 300 ticks", 600L, () -> x.costIn(0, 300));
    }

    private static void missesIn() {
        PoolScaler x = Checks.pools("pool 1 1 10;load 11 10 10;");
        CHECKS.due("40: 1 for the next tick", 1, () -> x.missesIn(0, 1));
        x.run(1);
        CHECKS.due("40: from now on: the third tick", 3, () -> x.missesIn(0, 3));
        CHECKS.due("40: -1 if it does not within these ticks", -1, () -> x.missesIn(0, 2));
        PoolScaler late = Checks.pools("pool 20 20 100;load 5" + " 0".repeat(22) + " 6;pool 1 1 6;load 5" + " 0".repeat(22) + " 7;");
        CHECKS.due("40: a demand that is the power is not missed", -1, () -> late.missesIn(0, 300));
        CHECKS.due("40: the 24th tick", 24, () -> late.missesIn(1, 24));
        CHECKS.due("40: not within 23", -1, () -> late.missesIn(1, 23));
    }

    private static void settlesIn() {
        PoolScaler x = Checks.pools("pool 1 3 10;load 30;target 100;cool 2 0;window 1;");
        CHECKS.due("51: the decisions 0, 4, 0, 2", 4, () -> x.settlesIn(0, 4));
        CHECKS.due("51: -1 if it is not within these ticks", -1, () -> x.settlesIn(0, 3));
        x.run(3);
        CHECKS.due("51: 1 for the next tick", 1, () -> x.settlesIn(0, 1));
        x.run(1);
        CHECKS.due("51: from now on, though it is 2 already", 1, () -> x.settlesIn(0, 300));
        x.pause(0, true);
        CHECKS.due("51: -1 while it is paused", -1, () -> x.settlesIn(0, 300));
    }

    private static void changesIn() {
        PoolScaler x = Checks.pools("pool 1 9 1;window 1;cool 0 0;load 4 0;pool 1 9 1;load 9;");
        x.grow(1, 5);
        CHECKS.due("50: one comes", 1, () -> x.changesIn(0, 1));
        CHECKS.due("50: one comes and goes", 2, () -> x.changesIn(0, 2));
        CHECKS.due("50: in 300 ticks", 300, () -> x.changesIn(0, 300));
        x.pause(0, true);
        CHECKS.due("50: none while it is paused", 0, () -> x.changesIn(0, 300));
    }

    private static void greatestIn() {
        PoolScaler x = Checks.pools("pool 9 9 1;cool 0 0;load 0 0 4;window 1;target 100;");
        x.setBounds(0, 0, 9);
        CHECKS.due("56: behind the first tick, not before it", 8, () -> x.greatestIn(0, 1));
        CHECKS.due("56: of three ticks", 8, () -> x.greatestIn(0, 3));
        PoolScaler grows = Checks.pools("pool 0 9 1;load 9;cool 0 0;");
        CHECKS.due("56: behind the last tick", 3, () -> grows.greatestIn(0, 3));
        CHECKS.due("56: never more than MAX", 9, () -> grows.greatestIn(0, 300));
    }

    private static void needed() {
        int[][] due = {{0, 0}, {1, 1}, {9, 1}, {10, 1}, {11, 2}, {999, 100}};
        for (int[] one : due) {
            PoolScaler x = Checks.pools("pool 0 1 10;load " + one[0] + ";");
            CHECKS.due("44: to miss nothing of " + one[0], one[1], () -> x.needed(0, 1));
        }
        PoolScaler x = Checks.pools("pool 0 1 1;load 5 6 7;");
        x.push(0, 10);
        CHECKS.due("44: what was pushed already", 15, () -> x.needed(0, 1));
        CHECKS.due("44: the greatest of these numbers", 15, () -> x.needed(0, 300));
        x.run(1);
        CHECKS.due("44: in the next tick alone", 6, () -> x.needed(0, 1));
        CHECKS.due("44: in the two next ticks", 7, () -> x.needed(0, 2));
        PoolScaler most = Checks.pools("pool 0 1 1;load 999;");
        most.push(0, 999);
        CHECKS.due("44: MAX does not matter", 1998, () -> most.needed(0, 1));
        CHECKS.due("44: without a load", 0, () -> new PoolScaler().needed(0, 300));
        PoolScaler last = Checks.pools("pool 0 1 1;load" + " 1".repeat(23) + " 9;");
        CHECKS.due("44: one tick too early", 1, () -> last.needed(0, 23));
        CHECKS.due("44: the last of the ticks counts", 9, () -> last.needed(0, 24));
    }

    private static void bestPolicy() {
        CHECKS.due("41: the smallest one on a tie of all", 0, () -> Checks.pools("pool 1 1 1;policy trend;").bestPolicy(0, 300));
        // A load that repeats: with its PERIOD season knows the jump, with another one it does not.
        String jumps = "pool 1 20 10;window 8;lead 1;warm 0;step 5 5;cool 0 0;target 100;cost 1 99;load 10 10 10 60 60;";
        PoolScaler known = Checks.pools(jumps + "policy season 5;");
        known.run(50);
        CHECKS.due("41: season with the PERIOD that the pool has", 2, () -> known.bestPolicy(0, 100));
        known.setPolicy(0, 2, 3);
        CHECKS.due("41: season with another PERIOD that the pool has", false, () -> known.bestPolicy(0, 100) == 2);
        PoolScaler day = Checks.pools("pool 1 20 10;window 8;lead 1;warm 0;step 5 5;cool 0 0;target 100;cost 1 99;load"
            + " 10 10 10 60 60 10 90 10 10 20 80 80 10 10 10 10 50 50 10 10 10 70 10 10;");
        day.run(48);
        CHECKS.due("41: 24 if its policy is another one now", 2, () -> day.bestPolicy(0, 240));
        day.setPolicy(0, 1, 0);
        CHECKS.due("41: 24 if its policy is trend now", 2, () -> day.bestPolicy(0, 240));
        CHECKS.due("41: it stays trend", 1, () -> day.pool(0, 10));
        CHECKS.due("41: without a PERIOD", 0, () -> day.pool(0, 11));
    }

    private static void bestTarget() {
        CHECKS.due("42: the smallest one on a tie of all", 10, () -> Checks.pools("pool 1 1 1;target 75;").bestTarget(0, 300));
        PoolScaler dear = Checks.pools("pool 0 20 10;window 1;cost 99 0;cool 0 0;step 5 5;load 20;");
        CHECKS.due("42: up to 100", 100, () -> dear.bestTarget(0, 300));
        PoolScaler fined = Checks.pools("pool 0 20 10;window 1;cost 1 99;cool 0 0;step 5 5;load 10 10 10 100;");
        CHECKS.due("42: from 10 on", 10, () -> fined.bestTarget(0, 300));
        // Three members serve it; 80, 90 and 100 want three of them, as 75 does, and 70 wants four.
        PoolScaler between = Checks.pools("pool 0 20 10;window 1;cost 1 99;target 75;cool 0 0;step 5 5;warm 0;load 22;");
        between.run(9);
        CHECKS.due("42: of 10, 20, 30 and so on", 80, () -> between.bestTarget(0, 300));
        CHECKS.due("42: TARGET stays", 75, () -> between.pool(0, 6));
    }

    private static void bestCool() {
        CHECKS.due("52: the smallest one on a tie of all", 0, () -> Checks.pools("pool 1 1 1;cool 3 7;").bestCool(0, 300));
        // One that shrinks between two peaks misses the second one, so it must not before the load comes round.
        PoolScaler peaks = Checks.pools("pool 0 20 10;window 1;target 100;cool 0 7;warm 0;step 5 5;cost 0 1;load 90" + " 0".repeat(23) + ";");
        peaks.run(30);
        CHECKS.due("52: of 0, 5, 10 and so on", 25, () -> peaks.bestCool(0, 300));
        CHECKS.due("52: COOLDOWN stays", 7, () -> peaks.pool(0, 16));
        PoolScaler down = Checks.pools("pool 9 20 10;cool 0 30;cost 9 0;");
        down.setBounds(0, 0, 20);
        CHECKS.due("52: from 0 on", 0, () -> down.bestCool(0, 300));
    }

    private static void asTryingShows() {
        String[] setups = {
            "pool 1 20 10;load 5 90 20 0 150 40;step 3 2;cool 2 3;window 2;cost 3 1;",
            "pool 3 9 7;load 10 20 30 40 50 60 70;policy trend;lead 8;warm 9;drop oldest;protect 1;cost 9 2;",
            "pool 0 20 100;load 0 0 999 0 40;policy season 4;lead 1;cool 0 0;warm 0;cost 40 1;",
            "pool 0 20 10;window 1;target 100;cool 0 7;warm 0;step 5 5;cost 1 1;load 90" + " 0".repeat(13) + ";"};
        for (String setup : setups) {
            for (int ticks : new int[] {1, 7, 40, 300}) {
                PoolScaler x = Checks.pools(setup);
                x.run(25);
                triesAlike(x, ticks, ", " + ticks + " ticks of " + setup);
            }
        }
    }

    private static void triesAlike(PoolScaler x, int ticks, String which) {
        int period = x.pool(0, 10) == 2 ? x.pool(0, 11) : 24;
        int up = x.pool(0, 15);
        int policy = x.bestPolicy(0, ticks);
        int target = x.bestTarget(0, ticks);
        int cool = x.bestCool(0, ticks);
        int duePolicy = 0;
        int dueTarget = 10;
        int dueCool = 0;
        long least = Long.MAX_VALUE;
        for (int tried = 0; tried <= 2; tried++) {
            x.setPolicy(0, tried, tried == 2 ? period : 0);
            long cost = x.costIn(0, ticks);
            x.undo();
            duePolicy = cost < least ? tried : duePolicy;
            least = Math.min(least, cost);
        }
        least = Long.MAX_VALUE;
        for (int tried = 10; tried <= 100; tried += 10) {
            x.setTarget(0, tried);
            long cost = x.costIn(0, ticks);
            x.undo();
            dueTarget = cost < least ? tried : dueTarget;
            least = Math.min(least, cost);
        }
        least = Long.MAX_VALUE;
        for (int tried = 0; tried <= 30; tried += 5) {
            x.setCool(0, up, tried);
            long cost = x.costIn(0, ticks);
            x.undo();
            dueCool = cost < least ? tried : dueCool;
            least = Math.min(least, cost);
        }
        CHECKS.due("41: as trying shows" + which, duePolicy, () -> policy);
        CHECKS.due("42: as trying shows" + which, dueTarget, () -> target);
        CHECKS.due("52: as trying shows" + which, dueCool, () -> cool);
    }

    private static void errorsWith() {
        PoolScaler x = Checks.pools("pool 1 9 10;window 1;lead 3;load 10 40 20 0;");
        CHECKS.due("57: no forecast comes true within LEAD", 0L, () -> x.errorsWith(0, 0, 3));
        CHECKS.due("57: the first one: 10 for 0", 10L, () -> x.errorsWith(0, 0, 4));
        CHECKS.due("57: with another policy it is the same", 10L, () -> x.errorsWith(0, 1, 4));
        PoolScaler rises = Checks.pools("pool 1 9 10;window 2;lead 1;load 10 20 30 40;");
        CHECKS.due("57: the least policy: 10, 15 and 25", 10L + 15 + 15, () -> rises.errorsWith(0, 0, 4));
        CHECKS.due("57: trend: 10, 30 and 40", 10L, () -> rises.errorsWith(0, 1, 4));
        CHECKS.due("57: the greatest policy: 10, 20 and 30", 10L + 10 + 10, () -> rises.errorsWith(0, 2, 4));
        x.run(3);
        CHECKS.due("57: forecasts that were made already stay", 10L + 30 + 20, () -> x.errorsWith(0, 2, 3));
        CHECKS.due("57: then those of the policy: watch 0 for 20", 60L + 20, () -> x.errorsWith(0, 0, 4));
        CHECKS.due("57: season with PERIOD 24: this demand, as there is none", 60L + 20, () -> x.errorsWith(0, 2, 4));
        x.setPolicy(0, 2, 4);
        CHECKS.due("57: season with the PERIOD that the pool has: 20 for 20", 60L, () -> x.errorsWith(0, 2, 4));
        x.run(1);
        CHECKS.due("57: the sum of the errors in these ticks", 30L, () -> x.errorsWith(0, 2, 1));
        CHECKS.due("57: the policy stays", 2, () -> x.pool(0, 10));
        CHECKS.due("57: PERIOD stays", 4, () -> x.pool(0, 11));
    }
}
