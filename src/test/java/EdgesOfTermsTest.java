/** Each sentence of the document's "Terms" that names an edge, but for the setup text; a check begins with its words. */
final class EdgesOfTermsTest {
    private static final Checks CHECKS = new Checks();

    public static void main(String[] args) {
        poolsAndMembers();
        settingsWithoutStatements();
        power();
        demandAndMisses();
        costs();
        whenErrorsBegin();
        window();
        watch();
        trend();
        season();
        wanted();
        firstDecisionThatApplies();
        coolUp();
        coolDown();
        howManyCome();
        howManyGo();
        whoGoes();
        byHandIsNoDecision();
        aLongLife();
        CHECKS.end();
    }

    private static void poolsAndMembers() {
        PoolScaler four = Checks.pools("pool 0 1 1;pool 2 3 1;pool 0 1 1;pool 1 1 1;");
        CHECKS.due("There are 1 to 4 pools: 4", 4, () -> four.count(0));
        CHECKS.due("numbered from 0: the first one", 0, () -> four.pool(0, 0));
        CHECKS.due("numbered from 0: the last one", 1, () -> four.pool(3, 0));
        CHECKS.throwsBounds("numbered from 0: none behind it", () -> four.pool(4, 0));
        CHECKS.throwsBounds("numbered from 0: none before it", () -> four.pool(-1, 0));
        CHECKS.due("There are 1 to 4 pools: 1", 1, () -> Checks.pools("pool 0 1 1;").count(0));

        CHECKS.due("At first a pool has MIN members: 0", 0, () -> four.pool(0, 3));
        CHECKS.due("the pools get them in their order: 0", 0, () -> four.memberAt(1, 0));
        CHECKS.due("the pools get them in their order: 1", 1, () -> four.memberAt(1, 1));
        CHECKS.due("the pools get them in their order: 2", 2, () -> four.memberAt(3, 0));
        CHECKS.due("those that pools have at first are no events", 0, () -> four.count(4));
        PoolScaler most = Checks.pools("pool 20 20 1;pool 20 20 1;pool 20 20 1;pool 20 20 1;");
        CHECKS.due("At first a pool has MIN members: 20", 20, () -> most.pool(3, 3));
        CHECKS.due("members are numbered from 0 over all pools", 79, () -> most.memberAt(3, 19));
        CHECKS.due("which came at 0", 0, () -> most.member(79, 1));
        CHECKS.due("and are ready from 0 on", 0, () -> most.member(79, 2));
        CHECKS.due("and are ready at 0", 1, () -> most.member(79, 3));

        PoolScaler x = Checks.pools("pool 1 9 10;");
        x.grow(0, 1);
        x.drop(1);
        x.grow(0, 1);
        CHECKS.due("numbers are not used again: the new one", 2, () -> x.memberAt(0, 1));
        CHECKS.throwsMissing("numbers are not used again: the one that went", () -> x.member(1, 0));
        CHECKS.due("numbers are not used again: those that have come", 3, () -> x.count(3));
    }

    private static void settingsWithoutStatements() {
        PoolScaler x = Checks.pools("pool 3 8 40;");
        int[] due = {3, 8, 40, 3, 3, 0, 70, 2, 4, 2, 0, 0, 0, 1, 1, 3, 5, 1, 1, 0, -1};
        for (int what = 0; what < due.length; what++) {
            int asked = what;
            CHECKS.due("what they are without a statement: " + what, due[what], () -> x.pool(0, asked));
        }
    }

    private static void power() {
        PoolScaler x = Checks.pools("pool 1 9 10;warm 9;");
        x.pause(0, true);
        x.grow(0, 1);
        x.run(8);
        CHECKS.due("members that are ready then: not yet at 8", 10, () -> x.headroom(0));
        x.run(1);
        CHECKS.due("members that are ready then: ready at 9", 20, () -> x.headroom(0));
        CHECKS.due("its power is 0 without members", 0, () -> Checks.pools("pool 0 9 10;").headroom(0));
        CHECKS.due("its power at most", 2000, () -> Checks.pools("pool 20 20 100;").headroom(0));
    }

    private static void demandAndMisses() {
        PoolScaler most = Checks.pools("pool 1 1 1;load" + numbers(1, 24) + ";");
        CHECKS.due("the index t modulo N: the last of 24", 24, () -> most.planned(0, 23));
        CHECKS.due("the index t modulo N: the first one again", 1, () -> most.planned(0, 24));
        most.run(24);
        CHECKS.due("the index t modulo N: met at 23", 24, () -> most.demand(0, 0));
        most.run(1);
        CHECKS.due("the index t modulo N: met at 24", 1, () -> most.demand(0, 0));
        PoolScaler one = Checks.pools("pool 1 1 1;load 6;");
        one.run(3);
        CHECKS.due("the index t modulo N: of one number", 6, () -> one.demand(0, 0));
        PoolScaler none = Checks.pools("pool 1 1 1;");
        none.run(1);
        CHECKS.due("0 without a statement", 0, () -> none.demand(0, 0));
        none.push(0, 4);
        none.push(0, 5);
        none.run(2);
        CHECKS.due("plus what was pushed since the last tick", 9, () -> none.demand(0, 1));
        CHECKS.due("plus nothing that was pushed before", 0, () -> none.demand(0, 0));

        PoolScaler x = Checks.pools("pool 2 2 10;load 19 20 21 0;");
        long[] served = {19, 39, 59, 59};
        long[] missed = {0, 0, 1, 1};
        for (int t = 0; t < 4; t++) {
            x.run(1);
            CHECKS.due("What the power at t covers of it is served, at " + t, served[t], () -> x.served(0));
            CHECKS.due("the rest is missed, at " + t, missed[t], () -> x.missed(0));
        }
        PoolScaler empty = Checks.pools("pool 0 1 10;load 7;");
        empty.run(1);
        CHECKS.due("a power of 0 covers nothing", 0L, () -> empty.served(0));
        CHECKS.due("a power of 0 misses all", 7L, () -> empty.missed(0));
    }

    private static void costs() {
        PoolScaler free = Checks.pools("pool 2 2 10;cost 0 0;load 999;");
        free.run(3);
        CHECKS.due("PRICE 0 and FINE 0 cost nothing", 0L, () -> free.cost(0));
        PoolScaler dear = Checks.pools("pool 1 9 10;cost 99 99;load 12;");
        dear.run(1);
        CHECKS.due("PRICE times its size plus FINE times what is missed", 99L + 99 * 2, () -> dear.cost(0));
        dear.run(1);
        CHECKS.due("its size counts members that are not ready", 2 * (99L + 99 * 2) + 99, () -> dear.cost(0));
        PoolScaler empty = Checks.pools("pool 0 1 10;cost 99 2;load 7;");
        empty.run(1);
        CHECKS.due("a size of 0 costs the misses alone", 14L, () -> empty.cost(0));
    }

    private static void whenErrorsBegin() {
        PoolScaler soon = Checks.pools("pool 1 9 10;window 1;lead 1;load 5 9 2;");
        soon.run(1);
        CHECKS.due("If a forecast was made for t: none at 0", 0.0, () -> soon.meanError(0));
        soon.run(1);
        CHECKS.due("If a forecast was made for t: with LEAD 1 at 1", 4.0, () -> soon.meanError(0));
        soon.run(1);
        CHECKS.due("the size of its difference from the demand", 11.0 / 2.0, () -> soon.meanError(0));
        PoolScaler late = Checks.pools("pool 1 9 10;window 1;lead 8;load 1 2 3 4 5 6 7 8 101 202;");
        late.run(8);
        CHECKS.due("If a forecast was made for t: with LEAD 8 none at 7", 0.0, () -> late.meanError(0));
        late.run(1);
        CHECKS.due("If a forecast was made for t: with LEAD 8 at 8", 100.0, () -> late.meanError(0));
        late.setPolicy(0, 1, 0);
        late.run(1);
        CHECKS.due("by whatever policy", 150.0, () -> late.meanError(0));
    }

    private static void window() {
        PoolScaler wide = Checks.pools("pool 1 9 10;window 8;load 8 8 8 8 8 8 8 16 80;");
        wide.run(7);
        CHECKS.due("as many as WINDOW tells or as there are: 7 of 8", 8, () -> wide.forecast(0));
        wide.run(1);
        CHECKS.due("as many as WINDOW tells or as there are: 8 of 8", 9, () -> wide.forecast(0));
        wide.run(1);
        CHECKS.due("as many as WINDOW tells or as there are: the latest 8 of 9", 18, () -> wide.forecast(0));
        PoolScaler narrow = Checks.pools("pool 1 9 10;window 1;load 3 90;");
        narrow.run(2);
        CHECKS.due("as many as WINDOW tells: this one alone", 90, () -> narrow.forecast(0));
    }

    private static void watch() {
        PoolScaler x = Checks.pools("pool 1 9 10;window 2;load 0 1 3 3;");
        int[] due = {0, 1, 2, 3, 2};
        for (int t = 0; t < due.length; t++) {
            x.run(1);
            CHECKS.due("watch: their sum divided by their number, rounded up, at " + t, due[t], () -> x.forecast(0));
        }
        PoolScaler least = Checks.pools("pool 1 9 10;window 8;load 0 0 0 0 0 0 0 1 0;");
        least.run(8);
        CHECKS.due("watch: 1 / 8, rounded up", 1, () -> least.forecast(0));
    }

    private static void trend() {
        PoolScaler one = Checks.pools("pool 1 9 10;window 1;lead 8;policy trend;load 20 50;");
        one.run(2);
        CHECKS.due("trend: their number - 1, but at least 1: a WINDOW of 1", 50, () -> one.forecast(0));
        PoolScaler first = Checks.pools("pool 1 9 10;window 8;lead 8;policy trend;load 20 50;");
        first.run(1);
        CHECKS.due("trend: their number - 1, but at least 1: one demand", 20, () -> first.forecast(0));
        first.run(1);
        CHECKS.due("trend: their number - 1: two demands", 50 + 30 * 8, () -> first.forecast(0));
        PoolScaler eight = Checks.pools("pool 1 9 10;window 8;lead 7;policy trend;load 99 10 0 0 0 0 0 0 24 5;");
        eight.run(9);
        CHECKS.due("trend: the first one of the latest 8", 24 + 14, () -> eight.forecast(0));

        PoolScaler falls = Checks.pools("pool 1 9 10;window 3;lead 1;policy trend;load 20 20 13 23;");
        falls.run(3);
        CHECKS.due("trend: -7 / 2, rounded towards 0", 10, () -> falls.forecast(0));
        falls.run(1);
        CHECKS.due("trend: 3 / 2, rounded towards 0", 24, () -> falls.forecast(0));
        int[] latest = {6, 5, 4, 0};
        int[] due = {2, 0, 0, 0};
        for (int i = 0; i < latest.length; i++) {
            PoolScaler x = Checks.pools("pool 1 9 10;window 2;lead 1;policy trend;load 10 " + latest[i] + ";");
            x.run(2);
            CHECKS.due("trend: not less than 0 in all, from 10 to " + latest[i], due[i], () -> x.forecast(0));
        }
        PoolScaler steep = Checks.pools("pool 1 9 10;window 2;lead 8;policy trend;load 0 999;");
        steep.run(1);
        steep.push(0, 999);
        steep.run(1);
        CHECKS.due("trend: the steepest one", 1998 * 9, () -> steep.forecast(0));
        CHECKS.due("trend: the steepest one wants MAX", 9, () -> steep.wanted(0));
    }

    private static void season() {
        seasonal("t itself", 4, 2, 9, 9);
        seasonal("t itself, for LEAD 8 and PERIOD 2", 8, 2, 9, 9);
        seasonal("the tick before t", 3, 2, 9, 8);
        seasonal("the tick before t, for LEAD 1", 1, 2, 9, 8);
        seasonal("PERIOD is LEAD", 8, 8, 9, 9);
        seasonal("PERIOD is less than LEAD", 8, 7, 9, 9 - 6);
        seasonal("PERIOD is greater than LEAD", 7, 8, 9, 8);
        seasonal("a PERIOD as far back as can be", 1, 24, 24, 1);
        seasonal("a PERIOD as far back as can be, one later", 1, 24, 25, 2);
        seasonal("far back, for LEAD 8", 8, 24, 30, 30 - 16);
        seasonal("this demand if there was no such tick", 1, 24, 23, 23);
        seasonal("this demand if there was no such tick, at 0", 1, 2, 1, 1);
        seasonal("the time 0 is such a tick", 1, 2, 2, 1);
        seasonal("no such tick, one too early", 8, 24, 16, 16);
        seasonal("the time 0 is such a tick, for LEAD 8", 8, 24, 17, 1);
    }

    /** The demand at t is t + 1, pushed tick by tick, as a load comes round too soon. */
    private static void seasonal(String what, int lead, int period, int ticks, int due) {
        PoolScaler x = Checks.pools("pool 1 9 10;lead " + lead + ";policy season " + period + ";");
        for (int t = 0; t < ticks; t++) {
            x.push(0, t + 1);
            x.run(1);
        }
        CHECKS.due("season: " + what, due, () -> x.forecast(0));
    }

    private static void wanted() {
        int[][] due = {{0, 2}, {10, 2}, {11, 3}, {15, 3}, {16, 4}, {20, 4}, {21, 4}, {999, 4}};
        for (int load : new int[] {100, 101}) {
            PoolScaler x = Checks.pools("pool 0 20 100;target 100;load " + load + ";");
            x.run(1);
            CHECKS.due("rounded up, from 1 on, for " + load, load - 99, () -> x.wanted(0));
        }
        for (int[] one : due) {
            PoolScaler x = Checks.pools("pool 2 4 10;window 1;target 50;load " + one[0] + ";");
            x.run(1);
            CHECKS.due("rounded up, but at least MIN and at most MAX, for " + one[0], one[1], () -> x.wanted(0));
        }
        PoolScaler zero = Checks.pools("pool 0 4 10;");
        zero.run(1);
        CHECKS.due("a wanted size of 0", 0, () -> zero.wanted(0));
        PoolScaler most = Checks.pools("pool 0 20 1;target 10;load 2;");
        most.run(1);
        CHECKS.due("the least TARGET and CAP", 20, () -> most.wanted(0));
        PoolScaler least = Checks.pools("pool 0 20 100;target 100;load 1;");
        least.run(1);
        CHECKS.due("the greatest TARGET and CAP", 1, () -> least.wanted(0));
    }

    private static void firstDecisionThatApplies() {
        PoolScaler x = Checks.pools("pool 1 9 10;load 7;");
        x.pause(0, true);
        CHECKS.due("3 if the pool is paused, before 2", "3", () -> Checks.decisions(x, 0, 1));
        CHECKS.due("1 is done, too", 7L, () -> x.served(0));
        CHECKS.due("2 is done, too", 7, () -> x.forecast(0));
        CHECKS.due("2 is done, too: the wanted size", 1, () -> x.wanted(0));
        PoolScaler grown = Checks.pools("pool 1 2 10;cool 9 9;load 90;");
        CHECKS.due("2 if the wanted size is the size, before 4", "022", () -> Checks.decisions(grown, 0, 3));
        PoolScaler kept = Checks.pools("pool 1 2 10;protect 0;");
        CHECKS.due("2 if the wanted size is the size, before 5", "2", () -> Checks.decisions(kept, 0, 1));
        PoolScaler cooling = Checks.pools("pool 1 2 10;cool 0 3;window 1;load 90 0 0 0 0;protect 0;");
        cooling.run(1);
        cooling.protect(1, true);
        CHECKS.due("4 comes before 5", "4455", () -> Checks.decisions(cooling, 0, 4));
        cooling.pause(0, true);
        CHECKS.due("3 comes before 5", "3", () -> Checks.decisions(cooling, 0, 1));
    }

    private static void coolUp() {
        String[] due = {"000000", "000000", "040404", "044044"};
        for (int cool = 0; cool < due.length; cool++) {
            PoolScaler x = Checks.pools("pool 1 20 10;load 999;cool " + cool + " 9;");
            CHECKS.due("t - s less than COOLUP " + cool, due[cool], () -> Checks.decisions(x, 0, 6));
        }
        PoolScaler most = Checks.pools("pool 1 20 10;load 999;cool 30 0;");
        CHECKS.due("t - s less than COOLUP 30: 29", "0" + "4".repeat(29), () -> Checks.decisions(most, 0, 30));
        CHECKS.due("t - s is COOLUP 30", "0", () -> Checks.decisions(most, 0, 1));
        PoolScaler shrank = Checks.pools("pool 0 20 10;cool 30 0;");
        shrank.grow(0, 2);
        shrank.run(1);
        shrank.push(0, 999);
        CHECKS.due("COOLUP waits for what grew alone", "0", () -> Checks.decisions(shrank, 0, 1));
    }

    private static void coolDown() {
        String[] due = {"111111", "111111", "141414", "144144"};
        for (int cool = 0; cool < due.length; cool++) {
            PoolScaler x = Checks.pools("pool 20 20 10;cool 9 " + cool + ";");
            x.setBounds(0, 0, 20);
            CHECKS.due("shrank, t - s less than COOLDOWN " + cool, due[cool], () -> Checks.decisions(x, 0, 6));
            PoolScaler grew = Checks.pools("pool 1 20 10;window 1;load 999 0 0 0 0 0;cool 9 " + cool + ";");
            String after = cool < 2 ? "012222" : cool == 2 ? "041222" : "044122";
            CHECKS.due("grew, t - s less than COOLDOWN " + cool, after, () -> Checks.decisions(grew, 0, 6));
        }
        PoolScaler most = Checks.pools("pool 20 20 10;cool 0 30;");
        most.setBounds(0, 0, 20);
        CHECKS.due("t - s less than COOLDOWN 30: 29", "1" + "4".repeat(29), () -> Checks.decisions(most, 0, 30));
        CHECKS.due("t - s is COOLDOWN 30", "1", () -> Checks.decisions(most, 0, 1));
    }

    private static void howManyCome() {
        int[][] due = {{1, 1}, {4, 4}, {5, 5}, {6, 5}, {20, 5}};
        for (int[] one : due) {
            PoolScaler x = Checks.pools("pool 0 20 1;target 100;step 5 1;warm 0;load " + one[0] + ";");
            CHECKS.due("as many come as are lacking, but at most UP, of " + one[0], one[1], () -> x.run(1));
        }
        PoolScaler some = Checks.pools("pool 3 20 1;target 100;step 5 1;load 5;");
        CHECKS.due("as many come as are lacking to those that are there", 2, () -> some.run(1));
        PoolScaler now = Checks.pools("pool 0 20 1;warm 0;load 1;");
        now.run(1);
        CHECKS.due("ready from t + 1 + WARM on: WARM 0", 1, () -> now.member(0, 2));
        CHECKS.due("ready from t + 1 + WARM on: ready", 1, () -> now.member(0, 3));
        PoolScaler late = Checks.pools("pool 0 1 1;warm 9;load 1;");
        late.run(1);
        CHECKS.due("ready from t + 1 + WARM on: WARM 9", 10, () -> late.member(0, 2));
        late.run(8);
        CHECKS.due("ready from t + 1 + WARM on: not at 9", 0, () -> late.member(0, 3));
        late.run(1);
        CHECKS.due("ready from t + 1 + WARM on: at 10", 1, () -> late.member(0, 3));
        CHECKS.due("missed until then", 10L, () -> late.missed(0));
        late.run(1);
        CHECKS.due("served then", 1L, () -> late.served(0));
        PoolScaler full = Checks.pools("pool 20 20 1;load 999;cool 0 0;");
        CHECKS.due("a full pool does not grow", 0, () -> full.run(9));
    }

    private static void howManyGo() {
        int[][] due = {{1, 1}, {4, 4}, {5, 5}, {6, 5}, {20, 5}};
        for (int[] one : due) {
            PoolScaler x = Checks.pools("pool " + one[0] + " 20 1;step 1 5;");
            x.setBounds(0, 0, 20);
            CHECKS.due("as many as are too many, but at most DOWN, of " + one[0], one[1], () -> x.run(1));
        }
        PoolScaler some = Checks.pools("pool 5 20 1;step 1 5;");
        some.setBounds(0, 3, 20);
        CHECKS.due("as many go as are too many beside those that stay", 2, () -> some.run(1));
        PoolScaler x = Checks.pools("pool 5 20 1;step 1 5;cool 0 0;protect 0;protect 2;protect 4;");
        x.setBounds(0, 0, 20);
        CHECKS.due("as long as there is one that is not protected", 2, () -> x.run(1));
        CHECKS.due("that is decision 1", 1, () -> x.pool(0, 20));
        CHECKS.due("5 if all members are protected", "5", () -> Checks.decisions(x, 0, 1));
        CHECKS.due("then none goes", 3, () -> x.pool(0, 3));
        PoolScaler tooMany = Checks.pools("pool 5 5 1;step 1 1;load 999;cool 0 0;");
        tooMany.setBounds(0, 0, 4);
        CHECKS.due("above MAX a pool shrinks, whatever its load", "12", () -> Checks.decisions(tooMany, 0, 2));
        PoolScaler tooFew = Checks.pools("pool 1 5 1;cool 0 0;");
        tooFew.setBounds(0, 3, 5);
        CHECKS.due("below MIN a pool grows, whatever its load", "002", () -> Checks.decisions(tooFew, 0, 3));
    }

    private static void whoGoes() {
        goes("newest: the greatest number", "newest", "", 3);
        goes("newest: of those that are not protected", "newest", "protect 3;protect 2;", 1);
        goes("oldest: the smallest number", "oldest", "", 0);
        goes("oldest: of those that are not protected", "oldest", "protect 0;protect 1;", 2);
        goes("cold: on a tie the greatest number", "cold", "", 3);
        goes("cold: of those that are not protected", "cold", "protect 3;", 2);
        PoolScaler first = Checks.pools("pool 1 9 10;drop oldest;warm 5;");
        first.pause(0, true);
        first.run(1);
        first.grow(0, 1);
        first.run(1);
        first.grow(0, 1);
        first.protect(2, true);
        first.pause(0, false);
        first.setBounds(0, 0, 9);
        first.run(1);
        CHECKS.due("the others stay: the first of them", 1, () -> first.memberAt(0, 0));
        CHECKS.due("the others stay: when it came", 1, () -> first.member(1, 1));
        CHECKS.due("the others stay: from when on it is ready", 6, () -> first.member(1, 2));
        CHECKS.due("the others stay: not protected", 0, () -> first.member(1, 4));
        CHECKS.due("the others stay: when the last one came", 2, () -> first.member(2, 1));
        CHECKS.due("the others stay: from when on the last one is ready", 7, () -> first.member(2, 2));
        CHECKS.due("the others stay: protected", 1, () -> first.member(2, 4));
        PoolScaler x = Checks.pools("pool 2 9 10;drop cold;warm 1;cool 0 0;window 1;load 99 0;");
        x.run(1);
        CHECKS.due("cold: one that comes in the tick 0 is ready from 2 on", 2, () -> x.member(2, 2));
        x.grow(0, 1);
        CHECKS.due("cold: one by hand at 1 is ready from 2 on", 2, () -> x.member(3, 2));
        CHECKS.due("cold: on this tie the greatest number", 3, () -> x.nextDropped(0));
        x.protect(3, true);
        x.run(1);
        CHECKS.due("cold: the greatest time of those that are not protected", 2, () -> x.event(0, 3));
    }

    private static void goes(String what, String rule, String protects, int due) {
        PoolScaler x = Checks.pools("pool 4 9 10;drop " + rule + ";" + protects);
        x.setBounds(0, 3, 9);
        x.run(1);
        CHECKS.due(what, due, () -> x.event(0, 3));
    }

    private static void byHandIsNoDecision() {
        PoolScaler x = Checks.pools("pool 1 9 10;cool 9 9;load 90;");
        x.grow(0, 1);
        x.drop(1);
        CHECKS.due("A pool grew at a time if its decision was 0 then: by hand none", "0", () -> Checks.decisions(x, 0, 1));
        PoolScaler y = Checks.pools("pool 1 9 10;cool 9 9;");
        y.grow(0, 3);
        y.drop(3);
        CHECKS.due("A pool shrank at a time if its decision was 1 then: by hand none", "1", () -> Checks.decisions(y, 0, 1));
        PoolScaler waits = Checks.pools("pool 1 9 10;cool 3 0;load 90;");
        CHECKS.due("a decision 4 begins no cool-down", "0440440", () -> Checks.decisions(waits, 0, 7));
    }

    private static void aLongLife() {
        PoolScaler x = Checks.pools("pool 20 20 1;cost 99 99;load 999;");
        for (int i = 0; i < 500; i++) {
            x.run(300);
        }
        long ticks = 150000;
        CHECKS.due("at most 512 calls: the time", 150000, () -> x.count(1));
        CHECKS.due("at most 512 calls: a cost beyond int", ticks * (99 * 20 + 99 * 979), () -> x.cost(0));
        CHECKS.due("at most 512 calls: served", ticks * 20, () -> x.served(0));
        CHECKS.due("at most 512 calls: missed", ticks * 979, () -> x.missed(0));
        CHECKS.due("at most 512 calls: longestMiss", 150000, () -> x.longestMiss(0));
        CHECKS.due("at most 512 calls: decisions", 150000, () -> x.decisions(0, 2));
        PoolScaler wild = Checks.pools("pool 0 20 100;target 100;step 5 5;cool 0 0;window 2;lead 8;policy trend;load 0 999;");
        for (int i = 0; i < 500; i++) {
            wild.run(300);
        }
        // At odd times 999 * 9 is forecast and 999 comes; at even times both are 0.
        CHECKS.due("at most 512 calls: errors", 999 * 8 / 2.0, () -> wild.meanError(0));
        CHECKS.due("at most 512 calls: events", true, () -> wild.count(4) > 0 && wild.count(3) > wild.pool(0, 3));
    }

    private static String numbers(int first, int last) {
        StringBuilder text = new StringBuilder();
        for (int i = first; i <= last; i++) {
            text.append(' ').append(i);
        }
        return text.toString();
    }
}
