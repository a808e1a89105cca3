/** The phases of a tick, as the terms tell them, seen through promises 14, 15, 16, 20, 21, 25 and 27. */
final class TicksTest {
    private static final Checks CHECKS = new Checks();

    public static void main(String[] args) {
        demands();
        watching();
        trend();
        season();
        errorsOfForecasts();
        wantedSizes();
        growing();
        shrinking();
        coolDowns();
        whoIsDropped();
        poolsInOrder();
        CHECKS.end();
    }

    private static void demands() {
        PoolScaler x = Checks.pools("pool 2 2 10;load 5 25 30;cost 3 7;");
        x.push(0, 4);
        x.run(4);
        CHECKS.due("27: the load comes round", 5, () -> x.demand(0, 0));
        CHECKS.due("27: the load of the time 2", 30, () -> x.demand(0, 1));
        CHECKS.due("28: pushed for the next tick alone", 25, () -> x.demand(0, 2));
        CHECKS.due("28: on top of the load", 9, () -> x.demand(0, 3));
        CHECKS.due("19: served", 9L + 20 + 20 + 5, () -> x.served(0));
        CHECKS.due("20: missed", 5L + 10, () -> x.missed(0));
        CHECKS.due("21: cost", 4L * 3 * 2 + 7 * 15, () -> x.cost(0));
    }

    private static void watching() {
        PoolScaler x = Checks.pools("pool 1 20 10;window 3;load 10 11 13 0;");
        x.run(1);
        CHECKS.due("14: one demand", 10, () -> x.forecast(0));
        x.run(1);
        CHECKS.due("14: 21 / 2, rounded up", 11, () -> x.forecast(0));
        x.run(1);
        CHECKS.due("14: 34 / 3, rounded up", 12, () -> x.forecast(0));
        x.run(1);
        CHECKS.due("14: 24 / 3", 8, () -> x.forecast(0));
    }

    private static void trend() {
        PoolScaler x = Checks.pools("pool 1 20 10;window 3;lead 2;policy trend;load 10 15 9 20 3 0;");
        x.run(1);
        CHECKS.due("14: one demand alone", 10, () -> x.forecast(0));
        x.run(1);
        CHECKS.due("14: 15 + 5 * 2 / 1", 25, () -> x.forecast(0));
        x.run(1);
        CHECKS.due("14: 9 - 1 * 2 / 2", 8, () -> x.forecast(0));
        x.run(1);
        CHECKS.due("14: 20 + 5 * 2 / 2", 25, () -> x.forecast(0));
        x.run(1);
        CHECKS.due("14: 3 - 6 * 2 / 2, but not less than 0", 0, () -> x.forecast(0));

        PoolScaler y = Checks.pools("pool 1 20 10;window 3;lead 1;policy trend;load 20 20 13 23 20;");
        y.run(3);
        CHECKS.due("14: 13 - 7 / 2, the quotient rounded towards 0", 10, () -> y.forecast(0));
        y.run(1);
        CHECKS.due("14: 23 + 3 / 2, the quotient rounded towards 0", 24, () -> y.forecast(0));

        PoolScaler z = Checks.pools("pool 1 20 10;window 1;lead 8;policy trend;load 20 50;");
        z.run(2);
        CHECKS.due("14: a window of 1 has no slope", 50, () -> z.forecast(0));
    }

    private static void season() {
        PoolScaler x = Checks.pools("pool 1 20 10;lead 2;policy season 4;load 1 2 3 4 5 6 7 8 9 10;");
        x.run(2);
        CHECKS.due("14: no such tick yet, so this demand", 2, () -> x.forecast(0));
        x.run(1);
        CHECKS.due("14: at 2 for 4: the time 0", 1, () -> x.forecast(0));
        x.run(1);
        CHECKS.due("14: at 3 for 5: the time 1", 2, () -> x.forecast(0));
        x.run(4);
        CHECKS.due("14: at 7 for 9: the time 5", 6, () -> x.forecast(0));

        PoolScaler y = Checks.pools("pool 1 20 10;lead 8;policy season 3;load 1 2 3 4 5 6 7 8 9 10;");
        y.run(1);
        CHECKS.due("14: at 0 for 8: the time -1", 1, () -> y.forecast(0));
        y.run(1);
        CHECKS.due("14: at 1 for 9: the time 0", 1, () -> y.forecast(0));
        y.run(4);
        CHECKS.due("14: at 5 for 13: the time 4", 5, () -> y.forecast(0));

        PoolScaler z = Checks.pools("pool 1 20 10;lead 4;policy season 2;load 1 2 3;");
        z.run(1);
        CHECKS.due("14: t itself can be that tick", 1, () -> z.forecast(0));

        PoolScaler w = Checks.pools("pool 1 20 10;lead 1;policy season 24;load 1 2 3 4 5 6 7;");
        w.run(23);
        CHECKS.due("14: at 22 there is none", 2, () -> w.forecast(0));
        w.run(1);
        CHECKS.due("14: at 23 for 24: the time 0", 1, () -> w.forecast(0));
        w.run(5);
        CHECKS.due("14: at 28 for 29: the time 5", 6, () -> w.forecast(0));
    }

    private static void errorsOfForecasts() {
        PoolScaler x = Checks.pools("pool 1 20 10;window 1;lead 3;load 10 40 25 0 7;");
        x.run(3);
        CHECKS.due("16: no forecast for these", 0.0, () -> x.meanError(0));
        x.run(1);
        CHECKS.due("16: forecast 10, demand 0", 10.0, () -> x.meanError(0));
        x.run(1);
        CHECKS.due("16: forecast 40, demand 7", 43.0 / 2.0, () -> x.meanError(0));
        x.setPolicy(0, 2, 2);
        x.run(1);
        CHECKS.due("16: forecasts stay with another policy: 25 and 10", 58.0 / 3.0, () -> x.meanError(0));

        PoolScaler y = Checks.pools("pool 1 20 10;window 1;lead 8;load 1 2 4 8 16 32 64 128 256 512;");
        y.run(8);
        CHECKS.due("16: none within LEAD", 0.0, () -> y.meanError(0));
        y.run(1);
        CHECKS.due("16: the greatest LEAD", 255.0, () -> y.meanError(0));
        y.run(1);
        CHECKS.due("16: 510 then", 765.0 / 2.0, () -> y.meanError(0));
    }

    private static void wantedSizes() {
        PoolScaler x = Checks.pools("pool 2 5 10;window 1;target 50;load 15 16 0 999 20;");
        x.run(1);
        CHECKS.due("15: 1500 / 500", 3, () -> x.wanted(0));
        x.run(1);
        CHECKS.due("15: 1600 / 500, rounded up", 4, () -> x.wanted(0));
        x.run(1);
        CHECKS.due("15: at least MIN", 2, () -> x.wanted(0));
        x.run(1);
        CHECKS.due("15: at most MAX", 5, () -> x.wanted(0));
        x.setBounds(0, 0, 20);
        CHECKS.due("15: stays until the next tick", 5, () -> x.wanted(0));
    }

    private static void growing() {
        PoolScaler x = Checks.pools("pool 1 9 10;target 100;window 1;step 2 1;cool 0 0;warm 3;load 40;");
        CHECKS.due("27: as many as UP", 2, () -> x.run(1));
        CHECKS.due("25: decision 0", 0, () -> x.pool(0, 20));
        CHECKS.due("9: came in this tick", 0, () -> x.member(1, 1));
        CHECKS.due("9: ready from t + 1 + WARM on", 4, () -> x.member(2, 2));
        CHECKS.due("27: no more than are lacking", 1, () -> x.run(1));
        CHECKS.due("9: ready one later", 5, () -> x.member(3, 2));
        x.run(2);
        CHECKS.due("9: ready at 4", 1, () -> x.member(1, 3));
        CHECKS.due("9: not ready at 4", 0, () -> x.member(3, 3));
        CHECKS.due("20: missed while they were not ready", 120L, () -> x.missed(0));
        x.run(1);
        CHECKS.due("20: the power at the time 4 was 30", 130L, () -> x.missed(0));
        CHECKS.due("21: each tick costs the size before its decision", 130L + 1 + 3 + 4 + 4 + 4, () -> x.cost(0));
    }

    private static void shrinking() {
        PoolScaler x = Checks.pools("pool 8 9 10;step 1 3;cool 0 0;protect 0;protect 1;protect 6;");
        x.setBounds(0, 0, 9);
        CHECKS.due("27: as many as DOWN", 3, () -> x.run(1));
        CHECKS.due("25: decision 1", 1, () -> x.pool(0, 20));
        CHECKS.due("27: as long as there is one", 2, () -> x.run(1));
        CHECKS.due("25: still decision 1", 1, () -> x.pool(0, 20));
        CHECKS.due("27: none is left", 0, () -> x.run(1));
        CHECKS.due("25: decision 5", 5, () -> x.pool(0, 20));
        x.protect(6, false);
        x.setBounds(0, 2, 9);
        CHECKS.due("27: no more than are too many", 1, () -> x.run(1));
        CHECKS.due("25: decision 2 then", "2", () -> Checks.decisions(x, 0, 1));
        x.pause(0, true);
        x.setBounds(0, 3, 9);
        CHECKS.due("25: decision 3", "3", () -> Checks.decisions(x, 0, 1));
        CHECKS.due("32: it wants more all the same", 3, () -> x.wanted(0));
    }

    private static void coolDowns() {
        PoolScaler x = Checks.pools("pool 1 9 10;target 100;window 1;cool 3 5;load 90 90 90 90 90 90 90 0;");
        CHECKS.due("25: COOLUP 3", "0440440", () -> Checks.decisions(x, 0, 7));
        CHECKS.due("25: COOLDOWN 5 after growing, up to the load again", "4404404", () -> Checks.decisions(x, 0, 7));
        PoolScaler y = Checks.pools("pool 6 9 10;target 100;window 1;cool 3 5;load 0;");
        y.setBounds(0, 1, 9);
        CHECKS.due("25: COOLDOWN 5 after shrinking", "144441444", () -> Checks.decisions(y, 0, 9));
        y.push(0, 90);
        CHECKS.due("25: shrinking does not keep it from growing", "0", () -> Checks.decisions(y, 0, 1));
        CHECKS.due("25: growing keeps it from shrinking", "444414", () -> Checks.decisions(y, 0, 6));
    }

    private static void whoIsDropped() {
        String pools = "pool 3 9 10;warm 0;cool 0 0;step 1 1;";
        PoolScaler newest = Checks.pools(pools + "drop newest;protect 2;");
        newest.setBounds(0, 0, 9);
        newest.run(1);
        CHECKS.due("17: newest dropped 1", 1, () -> newest.event(0, 3));
        PoolScaler oldest = Checks.pools(pools + "drop oldest;protect 0;");
        oldest.setBounds(0, 0, 9);
        oldest.run(1);
        CHECKS.due("17: oldest dropped 1", 1, () -> oldest.event(0, 3));
        PoolScaler cold = Checks.pools("pool 2 9 10;cool 0 0;drop cold;warm 4;pool 2 9 10;warm 0;");
        cold.grow(0, 1);
        cold.run(1);
        CHECKS.due("17: cold dropped what is ready last", 4, () -> cold.event(0, 3));
        cold.setBounds(0, 0, 9);
        CHECKS.due("17: on a tie the greatest number", 1, () -> cold.nextDropped(0));
        PoolScaler moved = Checks.pools("pool 0 9 10;drop cold;warm 0;pool 2 9 10;warm 9;");
        moved.setBounds(1, 0, 9);
        moved.grow(1, 1);
        moved.transfer(0, 0);
        CHECKS.due("17: ready last is not the greatest number", 4, () -> moved.grow(0, 3));
        moved.transfer(4, 1);
        moved.grow(1, 1);
        CHECKS.due("17: of the other pool by its own rule", 8, () -> moved.nextDropped(1));
    }

    private static void poolsInOrder() {
        PoolScaler x = Checks.pools("pool 1 9 10;step 2 1;load 90;pool 1 9 10;step 1 1;load 90;");
        CHECKS.due("27: all members that come", 3, () -> x.run(1));
        CHECKS.due("27: the first pool gets the first number", 0, () -> x.member(2, 0));
        CHECKS.due("27: and the second one", 0, () -> x.member(3, 0));
        CHECKS.due("27: the second pool comes behind it", 1, () -> x.member(4, 0));
        CHECKS.due("26: the latest event", 1, () -> x.event(0, 2));
    }
}
