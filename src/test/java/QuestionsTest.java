/** Promises 7 to 26, 47 to 49, 53 and 58 to 60: questions about what is. */
final class QuestionsTest {
    private static final Checks CHECKS = new Checks();
    private static final int[] NO_POOLS = {-1, 2, 3, 4, Integer.MIN_VALUE, Integer.MAX_VALUE};

    public static void main(String[] args) {
        wrongPools();
        counts();
        members();
        demands();
        measures();
        beforeTheFirstTick();
        nextDropped();
        coolLeft();
        sums();
        events();
        misses();
        middle();
        eldest();
        bestPeriod();
        CHECKS.end();
    }

    private static void wrongPools() {
        PoolScaler x = Checks.pools("pool 1 2 3;pool 1 2 3;");
        for (int pool : NO_POOLS) {
            CHECKS.throwsBounds("8: pool(" + pool + ")", () -> x.pool(pool, 0));
            CHECKS.throwsBounds("8: the pool comes before what", () -> x.pool(pool, 99));
            CHECKS.throwsBounds("10: memberAt(" + pool + ")", () -> x.memberAt(pool, 99));
            CHECKS.throwsBounds("11: demand(" + pool + ")", () -> x.demand(pool, -1));
            CHECKS.throwsBounds("12: planned(" + pool + ")", () -> x.planned(pool, -1));
            CHECKS.throwsBounds("13: measure(" + pool + ")", () -> x.measure(pool));
            CHECKS.throwsBounds("14: forecast(" + pool + ")", () -> x.forecast(pool));
            CHECKS.throwsBounds("15: wanted(" + pool + ")", () -> x.wanted(pool));
            CHECKS.throwsBounds("16: meanError(" + pool + ")", () -> x.meanError(pool));
            CHECKS.throwsBounds("17: nextDropped(" + pool + ")", () -> x.nextDropped(pool));
            CHECKS.throwsBounds("18: coolLeft(" + pool + ")", () -> x.coolLeft(pool, true));
            CHECKS.throwsBounds("19: served(" + pool + ")", () -> x.served(pool));
            CHECKS.throwsBounds("20: missed(" + pool + ")", () -> x.missed(pool));
            CHECKS.throwsBounds("21: cost(" + pool + ")", () -> x.cost(pool));
            CHECKS.throwsBounds("22: missedShare(" + pool + ")", () -> x.missedShare(pool));
            CHECKS.throwsBounds("23: used(" + pool + ")", () -> x.used(pool));
            CHECKS.throwsBounds("24: peak(" + pool + ")", () -> x.peak(pool));
            CHECKS.throwsBounds("25: decisions(" + pool + ")", () -> x.decisions(pool, 6));
            CHECKS.throwsBounds("43: bestPeriod(" + pool + ")", () -> x.bestPeriod(pool));
            CHECKS.throwsBounds("47: longestMiss(" + pool + ")", () -> x.longestMiss(pool));
            CHECKS.throwsBounds("48: headroom(" + pool + ")", () -> x.headroom(pool));
            CHECKS.throwsBounds("53: meanAge(" + pool + ")", () -> x.meanAge(pool));
            CHECKS.throwsBounds("58: median(" + pool + ")", () -> x.median(pool));
            CHECKS.throwsBounds("59: demandsWithin(" + pool + ")", () -> x.demandsWithin(pool, 0, 1));
        }
    }

    private static void counts() {
        PoolScaler x = Checks.pools("pool 1 5 10;step 2 1;load 50;pool 2 5 10;");
        x.run(3);
        x.grow(1, 2);
        x.drop(2);
        CHECKS.due("7: pools", 2, () -> x.count(0));
        CHECKS.due("7: time", 3, () -> x.count(1));
        CHECKS.due("7: members", 6, () -> x.count(2));
        CHECKS.due("7: members that have come", 7, () -> x.count(3));
        CHECKS.due("7: events", 5, () -> x.count(4));
        CHECKS.due("7: changes", 3, () -> x.count(5));
        for (int what : new int[] {-1, 6, Integer.MIN_VALUE, Integer.MAX_VALUE}) {
            CHECKS.throwsArgument("7: count(" + what + ")", () -> x.count(what));
            CHECKS.throwsArgument("8: pool(0, " + what + ")", () -> x.pool(0, what == 6 ? 21 : what));
            CHECKS.throwsArgument("9: member(0, " + what + ")", () -> x.member(0, what == 6 ? 5 : what));
            CHECKS.throwsArgument("9: what comes before the member", () -> x.member(99, what == 6 ? 5 : what));
            CHECKS.throwsArgument("25: decisions(0, " + what + ")", () -> x.decisions(0, what));
            CHECKS.throwsArgument("26: event(0, " + what + ")", () -> x.event(0, what == 6 ? 4 : what));
            CHECKS.throwsArgument("26: what comes before the event", () -> x.event(99, what == 6 ? 4 : what));
        }
    }

    private static void members() {
        PoolScaler x = Checks.pools("pool 2 5 10;warm 1;protect 1;pool 1 5 10;warm 3;");
        x.run(2);
        x.grow(0, 1);
        x.grow(1, 1);
        x.grow(0, 1);
        int[][] due = {{0, 0, 0, 1, 0}, {0, 0, 0, 1, 1}, {1, 0, 0, 1, 0}, {0, 2, 3, 0, 0}, {1, 2, 5, 0, 0}, {0, 2, 3, 0, 0}};
        for (int member = 0; member < due.length; member++) {
            for (int what = 0; what < 5; what++) {
                int askedMember = member;
                int asked = what;
                CHECKS.due("9: member(" + member + ", " + what + ")", due[member][what], () -> x.member(askedMember, asked));
            }
        }
        CHECKS.due("8: size", 4, () -> x.pool(0, 3));
        CHECKS.due("8: ready", 2, () -> x.pool(0, 4));
        CHECKS.due("8: protected", 1, () -> x.pool(0, 5));
        x.pause(0, true);
        x.pause(1, true);
        CHECKS.due("8: paused", 1, () -> x.pool(0, 19));
        x.run(1);
        CHECKS.due("9: ready at the very time", 1, () -> x.member(3, 3));
        CHECKS.due("8: ready then", 4, () -> x.pool(0, 4));
        CHECKS.due("10: by their numbers", 3, () -> x.memberAt(0, 2));
        CHECKS.due("10: the last one", 5, () -> x.memberAt(0, 3));
        CHECKS.due("10: of the other pool", 4, () -> x.memberAt(1, 1));
        for (int index : new int[] {-1, 4, Integer.MIN_VALUE, Integer.MAX_VALUE}) {
            CHECKS.throwsMissing("10: memberAt(0, " + index + ")", () -> x.memberAt(0, index));
        }
        for (int member : new int[] {-1, 6, Integer.MIN_VALUE, Integer.MAX_VALUE}) {
            CHECKS.throwsMissing("9: member(" + member + ", 0)", () -> x.member(member, 0));
        }
        x.drop(3);
        CHECKS.throwsMissing("9: a member that is gone", () -> x.member(3, 0));
        CHECKS.due("10: the next one moves up", 5, () -> x.memberAt(0, 2));
    }

    private static void demands() {
        PoolScaler x = Checks.pools("pool 1 2 10;load 1 2 3 4 5 6 7;");
        CHECKS.throwsMissing("11: none yet", () -> x.demand(0, 0));
        CHECKS.due("24: none yet", 0, () -> x.peak(0));
        x.run(23);
        CHECKS.due("11: the first one", 1, () -> x.demand(0, 22));
        CHECKS.throwsMissing("11: there are 23", () -> x.demand(0, 23));
        x.push(0, 50);
        CHECKS.due("12: what is pushed", 53, () -> x.planned(0, 0));
        CHECKS.due("12: but once", 4, () -> x.planned(0, 1));
        x.run(4);
        CHECKS.due("11: the latest one", 6, () -> x.demand(0, 0));
        CHECKS.due("11: pushed", 53, () -> x.demand(0, 3));
        CHECKS.due("11: the 24th one", 4, () -> x.demand(0, 23));
        CHECKS.throwsMissing("11: the 25th one", () -> x.demand(0, 24));
        CHECKS.throwsMissing("11: less than 0", () -> x.demand(0, -1));
        CHECKS.throwsMissing("11: the greatest int", () -> x.demand(0, Integer.MAX_VALUE));
        CHECKS.due("24: the greatest demand", 53, () -> x.peak(0));
        CHECKS.due("12: the next one", 7, () -> x.planned(0, 0));
        CHECKS.due("12: the latest one", (27 + 999) % 7 + 1, () -> x.planned(0, 999));
        CHECKS.throwsArgument("12: ahead 1000", () -> x.planned(0, 1000));
        CHECKS.throwsArgument("12: ahead -1", () -> x.planned(0, -1));
        PoolScaler y = new PoolScaler();
        CHECKS.due("12: without a load", 0, () -> y.planned(0, 5));
    }

    private static void measures() {
        PoolScaler x = Checks.pools("pool 3 9 10;window 3;load 10 20 29 1;pool 1 9 10;load 3;");
        CHECKS.due("13: no demand yet", 0, () -> x.measure(0));
        CHECKS.due("49: on a tie the smallest number", 0, x::busiest);
        CHECKS.due("48: the power without a demand", 30, () -> x.headroom(0));
        x.pause(0, true);
        x.run(1);
        CHECKS.due("13: 1000 / 30", 33, () -> x.measure(0));
        CHECKS.due("49: 33 and 30", 0, x::busiest);
        x.run(2);
        CHECKS.due("13: 5900 / 90", 65, () -> x.measure(0));
        CHECKS.due("48: 30 - 29", 1, () -> x.headroom(0));
        x.run(1);
        CHECKS.due("13: the latest three: 5000 / 90", 55, () -> x.measure(0));
        x.push(1, 90);
        x.run(1);
        CHECKS.due("48: 10 - 93", -83, () -> x.headroom(1));
        CHECKS.due("49: the second pool", 1, x::busiest);
        x.push(1, 999);
        x.run(1);
        CHECKS.due("13: at most 999", 999, () -> x.measure(1));

        PoolScaler small = Checks.pools("pool 1 1 1;window 1;load 1 2 9;");
        small.run(1);
        CHECKS.due("13: the least power", 100, () -> small.measure(0));
        small.run(2);
        CHECKS.due("13: 900", 900, () -> small.measure(0));

        PoolScaler y = Checks.pools("pool 0 9 10;pool 0 9 10;load 1;pool 1 9 100;load 100;");
        CHECKS.due("13: no demand yet, no power", 0, () -> y.measure(0));
        y.run(1);
        CHECKS.due("13: no power", 999, () -> y.measure(0));
        CHECKS.due("13: no power for some load", 999, () -> y.measure(1));
        CHECKS.due("49: the first of them", 0, y::busiest);
    }

    private static void beforeTheFirstTick() {
        PoolScaler x = new PoolScaler();
        CHECKS.due("14: no forecast", -1, () -> x.forecast(0));
        CHECKS.due("15: no wanted size", -1, () -> x.wanted(0));
        CHECKS.due("8: no decision", -1, () -> x.pool(0, 20));
        CHECKS.due("16: no errors", 0.0, () -> x.meanError(0));
        CHECKS.due("22: no demand", 0.0f, () -> x.missedShare(0));
        CHECKS.due("23: no power", 0.0, () -> x.used(0));
        x.run(1);
        CHECKS.due("14: a forecast of 0", 0, () -> x.forecast(0));
        CHECKS.due("15: MIN is wanted", 1, () -> x.wanted(0));
        CHECKS.due("22: a demand of 0", 0.0f, () -> x.missedShare(0));
    }

    private static void nextDropped() {
        PoolScaler x = Checks.pools("pool 3 5 10;protect 2;pool 3 5 10;drop oldest;protect 0;pool 0 5 10;pool 2 5 10;drop cold;");
        CHECKS.due("17: newest", 1, () -> x.nextDropped(0));
        CHECKS.due("17: the very first member", 0, () -> new PoolScaler().nextDropped(0));
        CHECKS.due("17: oldest", 4, () -> x.nextDropped(1));
        CHECKS.due("17: no members", -1, () -> x.nextDropped(2));
        CHECKS.due("17: cold, a tie", 7, () -> x.nextDropped(3));
        x.grow(3, 2);
        CHECKS.due("17: cold, the latest ready", 9, () -> x.nextDropped(3));
        x.protect(9, true);
        CHECKS.due("17: cold, not protected", 8, () -> x.nextDropped(3));
        x.protect(0, true);
        x.protect(1, true);
        CHECKS.due("17: all protected", -1, () -> x.nextDropped(0));
        CHECKS.due("17: MIN does not matter", 4, () -> x.nextDropped(1));
    }

    private static void coolLeft() {
        PoolScaler x = Checks.pools("pool 1 9 10;cool 3 5;load 90 0 0 0 0 0 0 0 0 0 0 0;window 1;");
        CHECKS.due("18: never grew", 0, () -> x.coolLeft(0, true));
        CHECKS.due("18: never moved", 0, () -> x.coolLeft(0, false));
        int[] up = {2, 1, 0, 0, 0, 0, 0};
        int[] down = {4, 3, 2, 1, 0, 4, 3};
        for (int i = 0; i < up.length; i++) {
            x.run(1);
            CHECKS.due("18: growing after tick " + i, up[i], () -> x.coolLeft(0, true));
            CHECKS.due("18: shrinking after tick " + i, down[i], () -> x.coolLeft(0, false));
        }
        x.setCool(0, 30, 0);
        CHECKS.due("18: with another COOLUP, for the tick 0", 23, () -> x.coolLeft(0, true));
        CHECKS.due("18: with COOLDOWN 0", 0, () -> x.coolLeft(0, false));
    }

    private static void sums() {
        PoolScaler x = Checks.pools("pool 1 1 10;cost 2 3;load 4 25;");
        x.run(3);
        CHECKS.due("19: served", 18L, () -> x.served(0));
        CHECKS.due("20: missed", 15L, () -> x.missed(0));
        CHECKS.due("21: cost", 51L, () -> x.cost(0));
        CHECKS.due("22: missed share", 15f / 33f, () -> x.missedShare(0));
        CHECKS.due("23: used", 18.0 / 30.0, () -> x.used(0));
        CHECKS.due("24: peak", 25, () -> x.peak(0));
        CHECKS.due("25: decisions 2", 3, () -> x.decisions(0, 2));
        CHECKS.due("25: decisions 0", 0, () -> x.decisions(0, 0));
        PoolScaler y = Checks.pools("pool 0 1 10;load 7;");
        y.pause(0, true);
        y.run(2);
        CHECKS.due("22: all is missed", 1.0f, () -> y.missedShare(0));
        CHECKS.due("23: no power at all", 0.0, () -> y.used(0));
        CHECKS.due("25: decisions 3", 2, () -> y.decisions(0, 3));
        PoolScaler stuck = Checks.pools("pool 1 1 10;protect 0;");
        stuck.setBounds(0, 0, 1);
        stuck.run(3);
        CHECKS.due("25: decisions 5", 3, () -> stuck.decisions(0, 5));
        PoolScaler z = Checks.pools("pool 20 20 1;cost 99 99;load 999;");
        for (int i = 0; i < 50; i++) {
            z.run(300);
        }
        CHECKS.due("21: more than an int", 15000L * (99 * 20 + 99 * 979), () -> z.cost(0));
        CHECKS.due("22: great sums", (float) (15000L * 979) / (float) (15000L * 999), () -> z.missedShare(0));
    }

    private static void events() {
        PoolScaler x = Checks.pools("pool 2 9 10;pool 0 9 10;");
        CHECKS.throwsMissing("26: those at first are none", () -> x.event(0, 0));
        x.run(2);
        x.grow(1, 1);
        x.drop(2);
        int[][] due = {{2, 1, 1, 2}, {2, 0, 1, 2}};
        for (int back = 0; back < 2; back++) {
            for (int what = 0; what < 4; what++) {
                int askedBack = back;
                int asked = what;
                CHECKS.due("26: event(" + back + ", " + what + ")", due[back][what], () -> x.event(askedBack, asked));
            }
        }
        CHECKS.throwsMissing("26: there are two", () -> x.event(2, 0));
        CHECKS.throwsMissing("26: less than 0", () -> x.event(-1, 0));
        CHECKS.throwsMissing("26: the least int", () -> x.event(Integer.MIN_VALUE, 0));
        for (int i = 0; i < 30; i++) {
            x.grow(1, 1);
            x.drop(x.memberAt(1, 0));
        }
        CHECKS.due("26: the 60th one", 0, () -> x.event(59, 1));
        CHECKS.due("26: its member", 3, () -> x.event(59, 3));
        CHECKS.throwsMissing("26: the 61st one", () -> x.event(60, 0));
        CHECKS.due("7: all 62 count", 62, () -> x.count(4));
    }

    private static void misses() {
        PoolScaler x = Checks.pools("pool 1 1 10;load 11 0 12 13 14 0 15 16;");
        CHECKS.due("47: none yet", 0, () -> x.longestMiss(0));
        x.run(2);
        CHECKS.due("47: one", 1, () -> x.longestMiss(0));
        x.run(5);
        CHECKS.due("47: three", 3, () -> x.longestMiss(0));
        x.run(3);
        CHECKS.due("47: the last two and the first one are three too", 3, () -> x.longestMiss(0));
        x.push(0, 99);
        x.run(1);
        x.setLoad(0, 1, 99);
        x.run(4);
        CHECKS.due("47: three again", 3, () -> x.longestMiss(0));
        x.run(10);
        CHECKS.due("47: seven over the end of the load", 7, () -> x.longestMiss(0));
    }

    private static void middle() {
        PoolScaler x = Checks.pools("pool 1 1 10;load 9 2 7 7;");
        CHECKS.due("58: none", 0, () -> x.median(0));
        CHECKS.due("59: none", 0, () -> x.demandsWithin(0, Integer.MIN_VALUE, Integer.MAX_VALUE));
        x.run(1);
        CHECKS.due("58: one", 9, () -> x.median(0));
        x.run(1);
        CHECKS.due("58: the smaller of two", 2, () -> x.median(0));
        x.run(1);
        CHECKS.due("58: the second of three", 7, () -> x.median(0));
        x.run(1);
        CHECKS.due("58: the second of four", 7, () -> x.median(0));
        CHECKS.due("59: both ends count", 3, () -> x.demandsWithin(0, 7, 9));
        CHECKS.due("59: one number", 1, () -> x.demandsWithin(0, 2, 2));
        CHECKS.due("59: low is greater", 0, () -> x.demandsWithin(0, 9, 7));
        CHECKS.due("59: all", 4, () -> x.demandsWithin(0, Integer.MIN_VALUE, Integer.MAX_VALUE));
        x.push(0, 500);
        x.run(1);
        x.run(23);
        CHECKS.due("59: the pushed one is the 24th", 1, () -> x.demandsWithin(0, 400, 600));
        x.run(1);
        CHECKS.due("59: then it is too old", 0, () -> x.demandsWithin(0, 400, 600));
        CHECKS.due("58: the latest 24 alone", 7, () -> x.median(0));
    }

    private static void eldest() {
        PoolScaler x = Checks.pools("pool 0 4 10;pool 1 4 10;pool 1 4 10;");
        CHECKS.due("60: on a tie the smallest number", 0, x::eldest);
        CHECKS.due("53: no members", 0.0, () -> x.meanAge(0));
        x.pause(1, true);
        x.run(3);
        x.grow(1, 2);
        x.run(1);
        CHECKS.due("53: (4 + 1 + 1) / 3", 2.0, () -> x.meanAge(1));
        x.drop(0);
        CHECKS.due("60: of another pool", 1, x::eldest);
        x.grow(1, 1);
        CHECKS.due("53: (1 + 1 + 0) / 3", 2.0 / 3.0, () -> x.meanAge(1));
        x.setBounds(2, 0, 4);
        x.transfer(1, 0);
        CHECKS.due("60: a member that was moved came anew", 2, x::eldest);
        PoolScaler y = Checks.pools("pool 0 4 10;");
        CHECKS.due("60: no members", -1, y::eldest);
    }

    private static void bestPeriod() {
        PoolScaler x = Checks.pools("pool 1 1 10;load 5 9 1;");
        x.run(2);
        CHECKS.due("43: no pairs", -1, () -> x.bestPeriod(0));
        x.run(1);
        CHECKS.due("43: one pair", 2, () -> x.bestPeriod(0));
        x.run(1);
        CHECKS.due("43: the period of the load", 3, () -> x.bestPeriod(0));
        x.run(50);
        CHECKS.due("43: the smallest one on a tie", 3, () -> x.bestPeriod(0));
        PoolScaler y = Checks.pools("pool 1 1 10;load 0 0 0 0 0 0 0 0 0 0 0 0 0 0 0 0 0 0 0 0 0 0 0 9;");
        y.setLoad(0, 0, 9);
        y.run(24);
        CHECKS.due("43: the greatest period with a pair", 23, () -> y.bestPeriod(0));
        y.run(1);
        CHECKS.due("43: of the latest 24 alone", 2, () -> y.bestPeriod(0));
    }
}
