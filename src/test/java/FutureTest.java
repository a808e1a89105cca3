/** Promises 37 to 42, 44, 50 to 52, 56 and 57: questions about the future. */
final class FutureTest {
    private static final Checks CHECKS = new Checks();

    public static void main(String[] args) {
        wrongArguments();
        sizes();
        costs();
        firstMissAndRest();
        needed();
        bestPolicy();
        bestTargetAndCool();
        errorsWith();
        nothingChanges();
        CHECKS.end();
    }

    private static void wrongArguments() {
        PoolScaler x = Checks.pools("pool 1 4 10;pool 1 4 10;");
        for (int pool : new int[] {-1, 2, 3, Integer.MIN_VALUE, Integer.MAX_VALUE}) {
            CHECKS.throwsBounds("37: sizeIn(" + pool + ")", () -> x.sizeIn(pool, 0));
            CHECKS.throwsBounds("38: missedIn(" + pool + ")", () -> x.missedIn(pool, 0));
            CHECKS.throwsBounds("39: costIn(" + pool + ")", () -> x.costIn(pool, 0));
            CHECKS.throwsBounds("40: missesIn(" + pool + ")", () -> x.missesIn(pool, 0));
            CHECKS.throwsBounds("41: bestPolicy(" + pool + ")", () -> x.bestPolicy(pool, 0));
            CHECKS.throwsBounds("42: bestTarget(" + pool + ")", () -> x.bestTarget(pool, 0));
            CHECKS.throwsBounds("44: needed(" + pool + ")", () -> x.needed(pool, 0));
            CHECKS.throwsBounds("50: changesIn(" + pool + ")", () -> x.changesIn(pool, 0));
            CHECKS.throwsBounds("51: settlesIn(" + pool + ")", () -> x.settlesIn(pool, 0));
            CHECKS.throwsBounds("52: bestCool(" + pool + ")", () -> x.bestCool(pool, 0));
            CHECKS.throwsBounds("56: greatestIn(" + pool + ")", () -> x.greatestIn(pool, 0));
            CHECKS.throwsBounds("57: errorsWith(" + pool + ")", () -> x.errorsWith(pool, 3, 0));
        }
        for (int ticks : new int[] {0, -1, 301, Integer.MIN_VALUE, Integer.MAX_VALUE}) {
            CHECKS.throwsArgument("37: sizeIn(0, " + ticks + ")", () -> x.sizeIn(0, ticks));
            CHECKS.throwsArgument("38: missedIn(0, " + ticks + ")", () -> x.missedIn(0, ticks));
            CHECKS.throwsArgument("39: costIn(0, " + ticks + ")", () -> x.costIn(0, ticks));
            CHECKS.throwsArgument("40: missesIn(0, " + ticks + ")", () -> x.missesIn(0, ticks));
            CHECKS.throwsArgument("41: bestPolicy(0, " + ticks + ")", () -> x.bestPolicy(0, ticks));
            CHECKS.throwsArgument("42: bestTarget(0, " + ticks + ")", () -> x.bestTarget(0, ticks));
            CHECKS.throwsArgument("44: needed(0, " + ticks + ")", () -> x.needed(0, ticks));
            CHECKS.throwsArgument("50: changesIn(0, " + ticks + ")", () -> x.changesIn(0, ticks));
            CHECKS.throwsArgument("51: settlesIn(0, " + ticks + ")", () -> x.settlesIn(0, ticks));
            CHECKS.throwsArgument("52: bestCool(0, " + ticks + ")", () -> x.bestCool(0, ticks));
            CHECKS.throwsArgument("56: greatestIn(0, " + ticks + ")", () -> x.greatestIn(0, ticks));
            CHECKS.throwsArgument("57: errorsWith(0, 0, " + ticks + ")", () -> x.errorsWith(0, 0, ticks));
        }
        CHECKS.throwsArgument("57: policy -1", () -> x.errorsWith(0, -1, 1));
        CHECKS.throwsArgument("57: policy 3", () -> x.errorsWith(0, 3, 1));
    }

    // 40 is wanted to be met by 4 members at TARGET 100; a member comes in the ticks 0, 2 and 4.
    private static PoolScaler slowlyGrowing() {
        return Checks.pools("pool 1 9 10;window 1;target 100;cool 2 9;warm 1;cost 1 2;load 40 40 40 40 40 40 40 40 40 0;");
    }

    private static void sizes() {
        PoolScaler x = slowlyGrowing();
        CHECKS.due("37: behind one tick", 2, () -> x.sizeIn(0, 1));
        CHECKS.due("37: behind two ticks", 2, () -> x.sizeIn(0, 2));
        CHECKS.due("37: behind five ticks", 4, () -> x.sizeIn(0, 5));
        CHECKS.due("50: members that come", 3, () -> x.changesIn(0, 5));
        CHECKS.due("50: and no more", 3, () -> x.changesIn(0, 9));
        CHECKS.due("56: the greatest size", 4, () -> x.greatestIn(0, 9));
        CHECKS.due("56: in one tick", 2, () -> x.greatestIn(0, 1));

        PoolScaler y = Checks.pools("pool 5 9 10;cool 0 0;step 1 2;pool 1 9 10;load 90;");
        y.setBounds(0, 0, 9);
        CHECKS.due("50: members that go, of this pool alone", 5, () -> y.changesIn(0, 300));
        CHECKS.due("56: behind each tick, not before it", 3, () -> y.greatestIn(0, 300));
        CHECKS.due("37: none is left", 0, () -> y.sizeIn(0, 300));
        CHECKS.due("56: of no members", 0, () -> Checks.pools("pool 0 1 1;").greatestIn(0, 9));
    }

    private static void costs() {
        PoolScaler x = slowlyGrowing();
        x.push(0, 5);
        CHECKS.due("38: what is pushed counts", 35L, () -> x.missedIn(0, 1));
        CHECKS.due("38: in four ticks", 35L + 30 + 20 + 20, () -> x.missedIn(0, 4));
        CHECKS.due("39: in four ticks", 2L * 105 + 1 + 2 + 2 + 3, () -> x.costIn(0, 4));
        x.run(2);
        CHECKS.due("38: from now on", 40L, () -> x.missedIn(0, 2));
        CHECKS.due("39: from now on", 2L * 40 + 2 + 3, () -> x.costIn(0, 2));
    }

    private static void firstMissAndRest() {
        PoolScaler x = Checks.pools("pool 3 3 10;load 0 0 0 30 31 0;");
        CHECKS.due("40: in the fifth tick", 5, () -> x.missesIn(0, 5));
        CHECKS.due("40: not in four", -1, () -> x.missesIn(0, 4));
        x.push(0, 31);
        CHECKS.due("40: in the next one", 1, () -> x.missesIn(0, 300));
        x.run(5);
        CHECKS.due("40: from now on", 6, () -> x.missesIn(0, 300));

        PoolScaler y = slowlyGrowing();
        CHECKS.due("51: decision 2 in the sixth tick", 6, () -> y.settlesIn(0, 6));
        CHECKS.due("51: not in five", -1, () -> y.settlesIn(0, 5));
        y.run(6);
        CHECKS.due("51: it is so now, and in the next one", 1, () -> y.settlesIn(0, 1));
        y.pause(0, true);
        CHECKS.due("51: never while it is paused", -1, () -> y.settlesIn(0, 300));
    }

    private static void needed() {
        PoolScaler x = Checks.pools("pool 0 1 10;load 30 31 999 0;");
        CHECKS.due("44: 30", 3, () -> x.needed(0, 1));
        CHECKS.due("44: 31, rounded up", 4, () -> x.needed(0, 2));
        CHECKS.due("44: MAX does not matter", 100, () -> x.needed(0, 3));
        x.push(0, 999);
        CHECKS.due("44: what is pushed counts", 103, () -> x.needed(0, 300));
        x.run(3);
        CHECKS.due("44: nothing is needed", 0, () -> x.needed(0, 1));
        CHECKS.due("44: the load comes round", 100, () -> x.needed(0, 4));
    }

    private static void bestPolicy() {
        // Rising loads: trend is ahead of them.
        PoolScaler rising = Checks.pools("pool 1 20 10;window 4;lead 2;step 5 5;cool 0 0;warm 0;target 100;cost 1 9;"
            + "load 10 20 30 40 50 60 70 80 90 100 110 120 130 140 150;");
        rising.run(3);
        CHECKS.due("41: trend", 1, () -> rising.bestPolicy(0, 12));
        CHECKS.due("41: on a tie the smallest one", 0, () -> rising.bestPolicy(0, 1));
        // A load with a period of 24 that jumps: season knows it when it has seen it once.
        String jumps = "pool 1 20 10;window 1;lead 1;step 5 5;cool 0 0;warm 0;target 100;cost 1 9;load"
            + " 50 10".repeat(1) + " 10".repeat(10) + " 50".repeat(2) + " 10".repeat(10) + ";";
        PoolScaler season = Checks.pools(jumps);
        season.run(48);
        CHECKS.due("41: season with PERIOD 24", 2, () -> season.bestPolicy(0, 48));
        season.setPolicy(0, 2, 7);
        CHECKS.due("41: with the PERIOD that it has", false, () -> season.bestPolicy(0, 48) == 2);
        CHECKS.due("41: the policy stays", 7, () -> season.pool(0, 11));
    }

    private static void bestTargetAndCool() {
        PoolScaler dear = Checks.pools("pool 0 20 10;window 1;cost 99 1;cool 0 0;load 20;");
        CHECKS.due("42: the greatest TARGET for dear members", 100, () -> dear.bestTarget(0, 300));
        PoolScaler cheap = Checks.pools("pool 1 20 10;window 1;cost 1 99;cool 0 0;step 5 5;load 10 90 10 10 90 10 10 10 90;");
        int best = cheap.bestTarget(0, 100);
        long least = Long.MAX_VALUE;
        int due = 0;
        for (int target = 10; target <= 100; target += 10) {
            cheap.setTarget(0, target);
            if (cheap.costIn(0, 100) < least) {
                least = cheap.costIn(0, 100);
                due = target;
            }
        }
        CHECKS.due("42: as trying shows", due, () -> best);
        CHECKS.due("42: on a tie the smallest one", 10, () -> Checks.pools("pool 1 1 1;").bestTarget(0, 9));

        PoolScaler wobbly = Checks.pools("pool 1 20 10;window 1;target 100;cost 1 50;step 5 5;warm 1;load 10 10 10 60 60 60 10 10 60 60;");
        int bestCool = wobbly.bestCool(0, 200);
        int dueCool = 0;
        least = Long.MAX_VALUE;
        for (int cool = 0; cool <= 30; cool += 5) {
            wobbly.setCool(0, 3, cool);
            if (wobbly.costIn(0, 200) < least) {
                least = wobbly.costIn(0, 200);
                dueCool = cool;
            }
        }
        int asTried = dueCool;
        CHECKS.due("52: as trying shows", asTried, () -> bestCool);
        CHECKS.due("52: such a load is not best without", true, () -> bestCool > 0);
        CHECKS.due("52: on a tie the smallest one", 0, () -> Checks.pools("pool 1 1 1;").bestCool(0, 9));
    }

    private static void errorsWith() {
        PoolScaler x = Checks.pools("pool 1 9 10;window 2;lead 1;load 10 20 40 80;");
        CHECKS.due("57: watch: forecasts 10, 15, 30", 10L + 25 + 50, () -> x.errorsWith(0, 0, 4));
        CHECKS.due("57: trend: forecasts 10, 30, 60", 10L + 10 + 20, () -> x.errorsWith(0, 1, 4));
        CHECKS.due("57: season: this demand", 10L + 20 + 40, () -> x.errorsWith(0, 2, 4));
        x.run(2);
        CHECKS.due("57: the forecast 15 stays", 25L, () -> x.errorsWith(0, 1, 1));
        CHECKS.due("57: then 60", 25L + 20, () -> x.errorsWith(0, 1, 2));
        x.setPolicy(0, 2, 2);
        CHECKS.due("57: season with its PERIOD: 20 for 80", 25L + 60, () -> x.errorsWith(0, 2, 2));
        CHECKS.due("57: the policy stays", 2, () -> x.pool(0, 10));
    }

    private static void nothingChanges() {
        PoolScaler x = slowlyGrowing();
        x.run(1);
        x.push(0, 3);
        x.bestPolicy(0, 300);
        x.bestTarget(0, 300);
        x.bestCool(0, 300);
        x.sizeIn(0, 300);
        CHECKS.due("41: questions are no changes", 2, () -> x.count(5));
        CHECKS.due("41: the time stays", 1, () -> x.count(1));
        CHECKS.due("41: the size stays", 2, () -> x.pool(0, 3));
        CHECKS.due("41: no members came", 2, () -> x.count(3));
        CHECKS.due("41: what is pushed stays", 43, () -> x.planned(0, 0));
        CHECKS.due("42: TARGET stays", 100, () -> x.pool(0, 6));
        CHECKS.due("52: COOLDOWN stays", 9, () -> x.pool(0, 16));
    }
}
