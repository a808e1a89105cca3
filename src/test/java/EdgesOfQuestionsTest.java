/** Each sentence that names an edge in promises 7 to 26, 43, 47 to 49, 53 and 58 to 62. */
final class EdgesOfQuestionsTest {
    private static final Checks CHECKS = new Checks();
    private static final int LEAST = Integer.MIN_VALUE;
    private static final int GREATEST = Integer.MAX_VALUE;

    public static void main(String[] args) {
        count();
        pool();
        member();
        memberAt();
        demand();
        planned();
        measure();
        forecastAndWanted();
        meanError();
        nextDropped();
        coolLeft();
        servedMissedAndCost();
        missedShareAndUsed();
        peak();
        decisions();
        event();
        bestPeriod();
        longestMiss();
        headroom();
        busiest();
        meanAge();
        median();
        demandsWithin();
        eldest();
        eldestOfLaterOnes();
        printPool();
        printLongNumbers();
        outputByte();
        CHECKS.end();
    }

    /** An object with these demands behind it, pushed tick by tick, as a load comes round behind 24. */
    private static PoolScaler demanded(String setup, int... demands) {
        PoolScaler x = Checks.pools(setup);
        for (int demand : demands) {
            x.push(0, demand);
            x.run(1);
        }
        return x;
    }

    private static int[] rising(int first, int last) {
        int[] numbers = new int[last - first + 1];
        for (int i = 0; i < numbers.length; i++) {
            numbers[i] = first + i;
        }
        return numbers;
    }

    private static void count() {
        PoolScaler x = Checks.pools("pool 0 1 1;");
        int[] due = {1, 0, 0, 0, 0, 0};
        for (int what = 0; what < due.length; what++) {
            int asked = what;
            CHECKS.due("7: of a fresh setup: " + what, due[what], () -> x.count(asked));
        }
        PoolScaler four = Checks.pools("pool 20 20 1;".repeat(4));
        CHECKS.due("7: of all pools: the members", 80, () -> four.count(2));
        CHECKS.due("7: of all pools: the members that have come so far", 80, () -> four.count(3));
        for (int what : new int[] {-1, 6, LEAST, GREATEST}) {
            CHECKS.throwsArgument("7: if what is out of range: " + what, () -> x.count(what));
        }
    }

    private static void pool() {
        PoolScaler x = Checks.pools("pool 0 1 1;pool 2 4 1;policy season 9;protect 0;protect 1;");
        CHECKS.due("8: no members", 0, () -> x.pool(0, 3));
        CHECKS.due("8: no members that are ready", 0, () -> x.pool(0, 4));
        CHECKS.due("8: no members that are protected", 0, () -> x.pool(0, 5));
        CHECKS.due("8: all members are protected", 2, () -> x.pool(1, 5));
        CHECKS.due("8: 0 for another policy", 0, () -> x.pool(0, 11));
        CHECKS.due("8: PERIOD for season", 9, () -> x.pool(1, 11));
        x.setPolicy(1, 0, 0);
        CHECKS.due("8: 0 for another policy again", 0, () -> x.pool(1, 11));
        CHECKS.due("8: otherwise 0", 0, () -> x.pool(0, 19));
        CHECKS.due("8: -1 before the first tick", -1, () -> x.pool(0, 20));
        x.run(1);
        CHECKS.due("8: the latest decision after it", 2, () -> x.pool(0, 20));
        for (int pool : new int[] {-1, 2, 3, 4, LEAST, GREATEST}) {
            CHECKS.throwsBounds("8: if there is no such pool: " + pool, () -> x.pool(pool, 0));
            CHECKS.throwsBounds("8: listed first: " + pool, () -> x.pool(pool, 21));
        }
        for (int what : new int[] {-1, 21, LEAST, GREATEST}) {
            CHECKS.throwsArgument("8: if what is out of range: " + what, () -> x.pool(1, what));
        }
    }

    private static void member() {
        PoolScaler x = Checks.pools("pool 1 4 1;warm 1;pool 1 4 1;");
        x.grow(0, 1);
        x.pause(0, true);
        x.pause(1, true);
        CHECKS.due("9: 1 if it is ready now, otherwise 0: one too early", 0, () -> x.member(2, 3));
        x.run(1);
        CHECKS.due("9: 1 if it is ready now: at that time", 1, () -> x.member(2, 3));
        CHECKS.due("9: 1 if it is protected, otherwise 0", 0, () -> x.member(2, 4));
        for (int what : new int[] {-1, 5, LEAST, GREATEST}) {
            CHECKS.throwsArgument("9: if what is out of range: " + what, () -> x.member(2, what));
            CHECKS.throwsArgument("9: listed first: " + what, () -> x.member(3, what));
        }
        for (int member : new int[] {-1, 3, LEAST, GREATEST}) {
            CHECKS.throwsMissing("9: if there is no such member: " + member, () -> x.member(member, 0));
        }
        x.drop(2);
        CHECKS.throwsMissing("9: if there is no such member: it went", () -> x.member(2, 0));
    }

    private static void memberAt() {
        PoolScaler x = Checks.pools("pool 0 4 1;pool 20 20 1;");
        CHECKS.due("10: from 0", 0, () -> x.memberAt(1, 0));
        CHECKS.due("10: to the last one", 19, () -> x.memberAt(1, 19));
        for (int index : new int[] {-1, 20, LEAST, GREATEST}) {
            CHECKS.throwsMissing("10: if there is no such index: " + index, () -> x.memberAt(1, index));
            CHECKS.throwsBounds("10: listed first: " + index, () -> x.memberAt(2, index));
        }
        CHECKS.throwsMissing("10: of a pool without members", () -> x.memberAt(0, 0));
    }

    private static void demand() {
        PoolScaler x = Checks.pools("pool 1 1 1;");
        CHECKS.throwsMissing("11: if there is no such demand: before the first tick", () -> x.demand(0, 0));
        for (int t = 0; t < 50; t++) {
            x.push(0, 100 + t);
            x.run(1);
            int latest = 100 + t;
            int kept = Math.min(24, t + 1);
            CHECKS.due("11: 0 for the latest one, at " + t, latest, () -> x.demand(0, 0));
            CHECKS.due("11: the first of the latest 24, at " + t, latest - kept + 1, () -> x.demand(0, kept - 1));
            CHECKS.throwsMissing("11: it is not one of the latest 24, at " + t, () -> x.demand(0, kept));
        }
        for (int back : new int[] {-1, 24, LEAST, GREATEST}) {
            CHECKS.throwsMissing("11: if there is no such demand: " + back, () -> x.demand(0, back));
            CHECKS.throwsBounds("11: listed first: " + back, () -> x.demand(1, back));
        }
    }

    private static void planned() {
        PoolScaler x = Checks.pools("pool 1 1 1;load 5 6 7;pool 1 1 1;");
        x.push(0, 10);
        x.push(1, 10);
        CHECKS.due("12: 0 for the next tick, with what is pushed", 15, () -> x.planned(0, 0));
        CHECKS.due("12: 1 for the one behind it, without", 6, () -> x.planned(0, 1));
        CHECKS.due("12: up to 999", 5, () -> x.planned(0, 999));
        CHECKS.due("12: without a load, with what is pushed", 10, () -> x.planned(1, 0));
        CHECKS.due("12: without a load", 0, () -> x.planned(1, 999));
        x.run(2);
        CHECKS.due("12: the next tick later on", 7, () -> x.planned(0, 0));
        CHECKS.due("12: from the first number again", 5, () -> x.planned(0, 1));
        for (int ahead : new int[] {-1, 1000, LEAST, GREATEST}) {
            CHECKS.throwsArgument("12: if ahead is out of range: " + ahead, () -> x.planned(0, ahead));
            CHECKS.throwsBounds("12: listed first: " + ahead, () -> x.planned(2, ahead));
        }
        x.push(0, 999);
        x.setLoad(0, 2, 999);
        CHECKS.due("12: the greatest demand", 1998, () -> x.planned(0, 0));
    }

    private static void measure() {
        CHECKS.due("13: 0 if there was no demand yet", 0, () -> Checks.pools("pool 1 1 1;").measure(0));
        CHECKS.due("13: 0 if there was no demand yet, without power", 0, () -> Checks.pools("pool 0 1 1;").measure(0));
        CHECKS.due("13: otherwise 999 if the power now is 0", 999, () -> demanded("pool 0 1 1;", 0).measure(0));
        CHECKS.due("13: a demand of 0", 0, () -> demanded("pool 1 1 1;", 0).measure(0));
        CHECKS.due("13: rounded down: 2/3", 66, () -> demanded("pool 3 3 1;", 2).measure(0));
        CHECKS.due("13: rounded down: 1/3", 33, () -> demanded("pool 3 3 1;", 1).measure(0));
        CHECKS.due("13: all", 100, () -> demanded("pool 3 3 1;", 3).measure(0));
        CHECKS.due("13: at most 999: 990", 990, () -> demanded("pool 10 10 1;", 99).measure(0));
        CHECKS.due("13: at most 999: 999", 999, () -> demanded("pool 1 1 100;", 999).measure(0));
        CHECKS.due("13: at most 999: 1000", 999, () -> demanded("pool 1 1 1;", 10).measure(0));
        PoolScaler great = Checks.pools("pool 1 1 1;window 8;load 999;");
        for (int i = 0; i < 8; i++) {
            great.push(0, 999);
            great.run(1);
        }
        CHECKS.due("13: at most 999: the greatest demands", 999, () -> great.measure(0));
        CHECKS.due("13: as many as there are", 20, () -> demanded("pool 1 1 100;window 3;", 10, 30).measure(0));
        CHECKS.due("13: as many as WINDOW tells", 40, () -> demanded("pool 1 1 100;window 3;", 10, 30, 40, 50).measure(0));
        CHECKS.due("13: a WINDOW of 1", 50, () -> demanded("pool 1 1 100;window 1;", 10, 50).measure(0));
        CHECKS.due("13: a WINDOW of 8", 54, () -> demanded("pool 1 1 100;window 8;", rising(51, 58)).measure(0));
        PoolScaler x = demanded("pool 1 2 10;warm 1;target 100;", 10);
        x.pause(0, true);
        x.grow(0, 1);
        CHECKS.due("13: the power now: not ready", 100, () -> x.measure(0));
        x.push(0, 10);
        x.run(1);
        CHECKS.due("13: the power now: ready", 50, () -> x.measure(0));
    }

    private static void forecastAndWanted() {
        PoolScaler x = Checks.pools("pool 0 1 1;");
        CHECKS.due("14: -1 before the first tick", -1, () -> x.forecast(0));
        CHECKS.due("15: -1 before the first tick", -1, () -> x.wanted(0));
        x.run(1);
        CHECKS.due("14: 0 after it", 0, () -> x.forecast(0));
        CHECKS.due("15: 0 after it", 0, () -> x.wanted(0));
        x.undo();
        CHECKS.due("14: -1 before it again", -1, () -> x.forecast(0));
        CHECKS.due("15: -1 before it again", -1, () -> x.wanted(0));
        x.setBounds(0, 1, 1);
        CHECKS.due("15: -1 before it, whatever MIN is", -1, () -> x.wanted(0));
    }

    private static void meanError() {
        CHECKS.due("16: 0.0 without errors", 0.0, () -> demanded("pool 1 1 1;lead 2;", 5, 9).meanError(0));
        CHECKS.due("16: an error of 0", 0.0, () -> demanded("pool 1 1 1;lead 2;", 5, 5, 5).meanError(0));
        CHECKS.due("16: one error", 4.0, () -> demanded("pool 1 1 1;lead 2;", 5, 5, 9).meanError(0));
        CHECKS.due("16: no whole number", 1.0 / 3.0, () -> demanded("pool 1 1 1;lead 1;window 1;", 5, 5, 5, 6).meanError(0));
    }

    private static void nextDropped() {
        CHECKS.due("17: -1 if all are protected", -1, () -> Checks.pools("pool 2 2 1;protect 0;protect 1;").nextDropped(0));
        CHECKS.due("17: -1 without members", -1, () -> Checks.pools("pool 0 2 1;").nextDropped(0));
        CHECKS.due("17: the only one that is not", 0, () -> Checks.pools("pool 2 2 1;protect 1;").nextDropped(0));
        CHECKS.due("17: whatever MIN is", 1, () -> Checks.pools("pool 2 2 1;").nextDropped(0));
    }

    private static void coolLeft() {
        PoolScaler fresh = Checks.pools("pool 1 9 1;cool 30 30;");
        CHECKS.due("18: 0 if it never grew", 0, () -> fresh.coolLeft(0, true));
        CHECKS.due("18: 0 if it never grew or shrank", 0, () -> fresh.coolLeft(0, false));
        for (int cool : new int[] {0, 1, 2, 30}) {
            PoolScaler x = Checks.pools("pool 1 20 1;load 999;cool " + cool + " " + cool + ";");
            x.run(1);
            int due = Math.max(0, cool - 1);
            CHECKS.due("18: how long it cannot grow, for COOLUP " + cool, due, () -> x.coolLeft(0, true));
            CHECKS.due("18: how long it cannot shrink, for COOLDOWN " + cool, due, () -> x.coolLeft(0, false));
            if (cool > 1) {
                x.run(due);
                CHECKS.due("18: 0 if it can in the next tick, for " + cool, 0, () -> x.coolLeft(0, true));
                CHECKS.due("18: the decision is not 4 then, for " + cool, "0", () -> Checks.decisions(x, 0, 1));
            }
        }
        PoolScaler shrinks = Checks.pools("pool 9 9 1;cool 5 4;");
        shrinks.setBounds(0, 0, 9);
        shrinks.run(1);
        CHECKS.due("18: it shrank, so it can grow", 0, () -> shrinks.coolLeft(0, true));
        CHECKS.due("18: it shrank, so it cannot shrink", 3, () -> shrinks.coolLeft(0, false));
        shrinks.run(3);
        CHECKS.due("18: 0 if it can in the next tick", 0, () -> shrinks.coolLeft(0, false));
        shrinks.pause(0, true);
        shrinks.run(9);
        CHECKS.due("18: never less than 0", 0, () -> shrinks.coolLeft(0, false));
        shrinks.setCool(0, 30, 30);
        CHECKS.due("18: for the cool-downs that it has now", 30 - 13, () -> shrinks.coolLeft(0, false));
        CHECKS.due("18: it never grew all the same", 0, () -> shrinks.coolLeft(0, true));
    }

    private static void servedMissedAndCost() {
        PoolScaler x = Checks.pools("pool 1 1 10;");
        CHECKS.due("19: 0 before the first tick", 0L, () -> x.served(0));
        CHECKS.due("20: 0 before the first tick", 0L, () -> x.missed(0));
        CHECKS.due("21: 0 before the first tick", 0L, () -> x.cost(0));
        x.push(0, 11);
        x.run(1);
        CHECKS.due("19: as far as the power goes", 10L, () -> x.served(0));
        CHECKS.due("20: the rest", 1L, () -> x.missed(0));
        CHECKS.due("21: of one tick", 2L, () -> x.cost(0));
    }

    private static void missedShareAndUsed() {
        CHECKS.due("22: 0 without demand, before the first tick", 0.0f, () -> Checks.pools("pool 1 1 1;").missedShare(0));
        CHECKS.due("22: 0 without demand, after it", 0.0f, () -> demanded("pool 0 1 1;", 0).missedShare(0));
        CHECKS.due("22: all", 1.0f, () -> demanded("pool 0 1 1;", 9).missedShare(0));
        CHECKS.due("22: none", 0.0f, () -> demanded("pool 9 9 1;", 9).missedShare(0));
        CHECKS.due("22: one of three", 1.0f / 3.0f, () -> demanded("pool 2 2 1;", 3).missedShare(0));
        CHECKS.due("23: 0.0 if that sum is 0, before the first tick", 0.0, () -> Checks.pools("pool 1 1 1;").used(0));
        CHECKS.due("23: 0.0 if that sum is 0, after it", 0.0, () -> demanded("pool 0 1 1;", 9).used(0));
        CHECKS.due("23: all", 1.0, () -> demanded("pool 2 2 1;", 9).used(0));
        CHECKS.due("23: none", 0.0, () -> demanded("pool 2 2 1;", 0).used(0));
        CHECKS.due("23: one of three", 1.0 / 3.0, () -> demanded("pool 3 3 1;", 1).used(0));
        // A float cannot hold 2 to the 24th + 1; the sums are rounded before they are divided.
        PoolScaler great = Checks.pools("pool 20 20 1;load 999;");
        for (int i = 0; i < 56; i++) {
            great.run(300);
        }
        great.run(201);
        CHECKS.due("22: both sums converted to float", (float) (17001L * 979) / (float) (17001L * 999), () -> great.missedShare(0));
        CHECKS.due("22: not as doubles", false, () -> great.missedShare(0) == (float) (979.0 / 999.0));
    }

    private static void peak() {
        CHECKS.due("24: 0 without one", 0, () -> Checks.pools("pool 1 1 1;load 5;").peak(0));
        CHECKS.due("24: the first one", 5, () -> demanded("pool 1 1 1;", 5).peak(0));
        CHECKS.due("24: the greatest one, though it is not kept", 50, () -> {
            PoolScaler x = demanded("pool 1 1 1;", 50);
            x.run(30);
            return x.peak(0);
        });
        PoolScaler x = Checks.pools("pool 1 1 1;load 999;");
        x.push(0, 999);
        x.run(1);
        CHECKS.due("24: the greatest there is", 1998, () -> x.peak(0));
    }

    private static void decisions() {
        PoolScaler x = Checks.pools("pool 1 3 1;window 1;cool 2 2;load 9;");
        for (int decision = 0; decision <= 5; decision++) {
            int asked = decision;
            CHECKS.due("25: 0 to 5, none yet: " + decision, 0, () -> x.decisions(0, asked));
        }
        x.run(4);
        x.setBounds(0, 0, 1);
        x.run(3);
        x.pause(0, true);
        x.run(1);
        x.pause(0, false);
        x.setBounds(0, 0, 20);
        x.setLoad(0, 0, 0);
        x.protect(0, true);
        x.run(1);
        int[] due = {2, 2, 1, 1, 2, 1};
        for (int decision = 0; decision <= 5; decision++) {
            int asked = decision;
            CHECKS.due("25: how often it was " + decision, due[decision], () -> x.decisions(0, asked));
        }
        for (int decision : new int[] {-1, 6, LEAST, GREATEST}) {
            CHECKS.throwsArgument("25: if decision is out of range: " + decision, () -> x.decisions(0, decision));
            CHECKS.throwsBounds("25: listed first: " + decision, () -> x.decisions(1, decision));
        }
    }

    private static void event() {
        PoolScaler x = Checks.pools("pool 0 20 1;");
        CHECKS.throwsMissing("26: if there is no such event: none yet", () -> x.event(0, 0));
        for (int made = 1; made <= 130; made++) {
            // An odd event is a member that comes, with the number of half as many; an even one is the same that goes.
            if (made % 2 == 1) {
                x.grow(0, 1);
            } else {
                x.drop(x.memberAt(0, 0));
            }
            int kept = Math.min(60, made);
            int latest = made;
            CHECKS.due("26: 0 for the latest one, of " + made, (latest + 1) % 2, () -> x.event(0, 1));
            CHECKS.due("26: its member, of " + made, (latest - 1) / 2, () -> x.event(0, 3));
            CHECKS.due("26: the first of the latest 60, of " + made, (latest - kept) / 2, () -> x.event(kept - 1, 3));
            CHECKS.throwsMissing("26: it is not one of the latest 60, of " + made, () -> x.event(kept, 3));
        }
        PoolScaler parts = Checks.pools("pool 1 9 1;pool 1 9 1;load 9;");
        parts.run(2);
        parts.grow(1, 1);
        int[] ofTick = {0, 0, 1, 2};
        int[] byHand = {2, 0, 1, 3};
        for (int what = 0; what < 4; what++) {
            int asked = what;
            CHECKS.due("26: its time and the rest: " + what, ofTick[what], () -> parts.event(1, asked));
            CHECKS.due("26: by hand: the time then, and the rest: " + what, byHand[what], () -> parts.event(0, asked));
        }
        for (int back : new int[] {-1, 60, LEAST, GREATEST}) {
            CHECKS.throwsMissing("26: if there is no such event: " + back, () -> x.event(back, 0));
        }
        for (int what : new int[] {-1, 4, LEAST, GREATEST}) {
            CHECKS.throwsArgument("26: if what is out of range: " + what, () -> x.event(0, what));
            CHECKS.throwsArgument("26: listed first: " + what, () -> x.event(60, what));
        }
    }

    private static void bestPeriod() {
        String one = "pool 1 1 1;";
        CHECKS.due("43: -1 if there is none: no demands", -1, () -> demanded(one).bestPeriod(0));
        CHECKS.due("43: -1 if there is none: one demand", -1, () -> demanded(one, 5).bestPeriod(0));
        CHECKS.due("43: -1 if there is none: two demands", -1, () -> demanded(one, 5, 5).bestPeriod(0));
        CHECKS.due("43: three demands have one pair", 2, () -> demanded(one, 5, 7, 9).bestPeriod(0));
        CHECKS.due("43: four demands", 3, () -> demanded(one, 5, 7, 9, 5).bestPeriod(0));
        CHECKS.due("43: the smallest one on a tie", 2, () -> demanded(one, new int[24]).bestPeriod(0));
        CHECKS.due("43: the smallest one on a tie of 3 and 6", 3,
            () -> demanded(one, 1, 5, 9, 1, 5, 9, 1, 5, 9, 1, 5, 9, 1, 5, 9).bestPeriod(0));
        CHECKS.due("43: as doubles: 3 / 2 and 1 / 1", 3, () -> demanded(one, 4, 6, 6, 5).bestPeriod(0));
        CHECKS.due("43: divided by the number of these pairs", 2, () -> demanded(one, 10, 50, 11, 51, 12).bestPeriod(0));
        int[] again = rising(1, 24);
        again[23] = 1;
        CHECKS.due("43: the period 23 has one pair", 23, () -> demanded(one, again).bestPeriod(0));
        int[] tooLong = rising(1, 25);
        tooLong[24] = 1;
        CHECKS.due("43: periods without pairs are left aside: 24 has none of 25 demands", 23, () -> demanded(one, tooLong).bestPeriod(0));
        int[] old = new int[34];
        for (int i = 0; i < 34; i++) {
            old[i] = i < 10 ? 900 * (i % 2) : 10 * (i % 5);
        }
        CHECKS.due("43: of the latest 24 demands", 5, () -> demanded(one, old).bestPeriod(0));
    }

    private static void longestMiss() {
        String one = "pool 1 1 10;";
        CHECKS.due("47: before the first tick", 0, () -> demanded(one).longestMiss(0));
        CHECKS.due("47: none missed anything", 0, () -> demanded(one, 10, 0).longestMiss(0));
        CHECKS.due("47: one tick", 1, () -> demanded(one, 11).longestMiss(0));
        CHECKS.due("47: a row from the first tick to the latest", 3, () -> demanded(one, 11, 12, 13).longestMiss(0));
        CHECKS.due("47: a row with a gap", 2, () -> demanded(one, 11, 12, 10, 13).longestMiss(0));
        CHECKS.due("47: the later row is longer", 3, () -> demanded(one, 11, 12, 10, 13, 14, 15).longestMiss(0));
        CHECKS.due("47: the earlier row is longer", 3, () -> demanded(one, 11, 12, 13, 10, 14, 15, 10).longestMiss(0));
    }

    private static void headroom() {
        CHECKS.due("48: the power if there was no demand yet", 30, () -> demanded("pool 3 3 10;").headroom(0));
        CHECKS.due("48: the power if there was a demand of 0", 30, () -> demanded("pool 3 3 10;", 0).headroom(0));
        CHECKS.due("48: 0 if the demand is the power", 0, () -> demanded("pool 3 3 10;", 30).headroom(0));
        CHECKS.due("48: below 0 if the demand is greater", -1, () -> demanded("pool 3 3 10;", 31).headroom(0));
        CHECKS.due("48: below 0 without members", -999, () -> demanded("pool 0 3 10;", 999).headroom(0));
        CHECKS.due("48: the latest demand", 25, () -> demanded("pool 3 3 10;", 30, 5).headroom(0));
    }

    private static void busiest() {
        CHECKS.due("49: of one pool", 0, () -> Checks.pools("pool 1 1 1;").busiest());
        CHECKS.due("49: the smallest one on a tie, without demands", 0, () -> Checks.pools("pool 1 1 1;".repeat(4)).busiest());
        PoolScaler tie = Checks.pools("pool 1 1 10;load 5;pool 1 1 10;load 9;pool 1 1 10;load 9;pool 1 1 10;");
        tie.run(1);
        CHECKS.due("49: the smallest one on a tie of the greatest", 1, tie::busiest);
        PoolScaler last = Checks.pools("pool 1 1 10;load 5;pool 1 1 10;load 9;pool 1 1 10;load 9;pool 0 1 10;");
        last.run(1);
        CHECKS.due("49: the last pool", 3, last::busiest);
    }

    private static void meanAge() {
        PoolScaler empty = Checks.pools("pool 0 9 1;");
        empty.run(5);
        CHECKS.due("53: 0.0 without members", 0.0, () -> empty.meanAge(0));
        empty.grow(0, 2);
        CHECKS.due("53: 0.0 of those that came now", 0.0, () -> empty.meanAge(0));
        PoolScaler x = Checks.pools("pool 2 9 1;");
        x.pause(0, true);
        x.run(1);
        x.grow(0, 1);
        CHECKS.due("53: no whole number", 2.0 / 3.0, () -> x.meanAge(0));
    }

    private static void median() {
        String one = "pool 1 1 1;";
        CHECKS.due("58: 0 without demands", 0, () -> Checks.pools(one).median(0));
        CHECKS.due("58: of one", 7, () -> demanded(one, 7).median(0));
        CHECKS.due("58: of two the index 0", 3, () -> demanded(one, 7, 3).median(0));
        CHECKS.due("58: of three the index 1", 5, () -> demanded(one, 7, 3, 5).median(0));
        CHECKS.due("58: of four the index 1", 5, () -> demanded(one, 7, 3, 9, 5).median(0));
        CHECKS.due("58: the greater ones came first", 5, () -> demanded(one, 7, 5, 3).median(0));
        CHECKS.due("58: of a 0 and others", 5, () -> demanded(one, 0, 5, 7).median(0));
        CHECKS.due("58: 0 of others", 0, () -> demanded(one, 0, 0, 5, 7).median(0));
        CHECKS.due("58: of equal ones", 4, () -> demanded(one, 4, 4, 4, 9, 0).median(0));
        CHECKS.due("58: of 23 the index 11", 12, () -> demanded(one, rising(1, 23)).median(0));
        CHECKS.due("58: of 24 the index 11", 12, () -> demanded(one, rising(1, 24)).median(0));
        CHECKS.due("58: of the latest 24 of 25", 13, () -> demanded(one, rising(1, 25)).median(0));
        CHECKS.due("58: of demands of 0", 0, () -> demanded(one, 0, 0, 0).median(0));
    }

    private static void demandsWithin() {
        String one = "pool 1 1 1;";
        PoolScaler x = demanded(one, 3, 5, 5, 7);
        CHECKS.due("59: without demands", 0, () -> Checks.pools(one).demandsWithin(0, LEAST, GREATEST));
        CHECKS.due("59: the least demand counts", 4, () -> x.demandsWithin(0, 3, 9));
        CHECKS.due("59: the greatest demand counts", 4, () -> x.demandsWithin(0, 0, 7));
        CHECKS.due("59: one above the least", 3, () -> x.demandsWithin(0, 4, 7));
        CHECKS.due("59: one below the greatest", 3, () -> x.demandsWithin(0, 3, 6));
        CHECKS.due("59: low is high", 2, () -> x.demandsWithin(0, 5, 5));
        CHECKS.due("59: none lies there", 0, () -> x.demandsWithin(0, 4, 4));
        CHECKS.due("59: 0 if low is greater than high", 0, () -> x.demandsWithin(0, 6, 5));
        CHECKS.due("59: 0 if low is the greatest int", 0, () -> x.demandsWithin(0, GREATEST, LEAST));
        CHECKS.due("59: any int", 4, () -> x.demandsWithin(0, LEAST, GREATEST));
        CHECKS.due("59: below 0", 0, () -> x.demandsWithin(0, LEAST, -1));
        CHECKS.due("59: of 24", 24, () -> demanded(one, rising(1, 24)).demandsWithin(0, 1, 99));
        CHECKS.due("59: of the latest 24 of 25", 24, () -> demanded(one, rising(1, 25)).demandsWithin(0, 1, 99));
        CHECKS.due("59: the 25th is none of them", 0, () -> demanded(one, rising(1, 25)).demandsWithin(0, 1, 1));
        CHECKS.due("59: the 24th is one of them", 1, () -> demanded(one, rising(1, 25)).demandsWithin(0, 1, 2));
        CHECKS.due("59: of a demand of 0", 1, () -> demanded(one, 0).demandsWithin(0, 0, 0));
    }

    private static void eldest() {
        CHECKS.due("60: -1 without members", -1, () -> Checks.pools("pool 0 1 1;".repeat(4)).eldest());
        CHECKS.due("60: the smallest one on a tie", 0, () -> Checks.pools("pool 0 1 1;pool 2 2 1;pool 1 1 1;").eldest());
        PoolScaler x = Checks.pools("pool 1 2 1;pool 0 2 1;pool 1 2 1;");
        x.setBounds(0, 0, 2);
        x.setBounds(2, 0, 2);
        x.transfer(0, 1);
        CHECKS.due("60: came at the same time, with a greater number", 1, x::eldest);
        x.pause(1, true);
        x.pause(2, true);
        x.run(1);
        x.transfer(1, 0);
        CHECKS.due("60: one that was moved came later", 2, x::eldest);
        x.drop(2);
        CHECKS.due("60: the only one", 3, x::eldest);
        x.drop(3);
        CHECKS.due("60: -1 when the last one is gone", -1, x::eldest);
        x.grow(2, 1);
        CHECKS.due("60: one that came now", 4, x::eldest);
    }

    private static void eldestOfLaterOnes() {
        PoolScaler x = Checks.pools("pool 1 4 1;pool 0 4 1;pool 0 4 1;");
        for (int pool = 0; pool < 3; pool++) {
            x.setBounds(pool, 0, 4);
            x.pause(pool, true);
        }
        x.run(3);
        x.grow(1, 2);
        x.run(1);
        x.grow(2, 1);
        x.run(1);
        x.transfer(0, 1);
        CHECKS.due("60: the pool without members is left aside", 1, x::eldest);
        x.grow(0, 1);
        CHECKS.due("60: not the first that is found", 1, x::eldest);
        x.drop(1);
        x.drop(2);
        CHECKS.due("60: the eldest of the last pool", 3, x::eldest);
    }

    private static void printPool() {
        PoolScaler x = Checks.pools("pool 0 1 1;pool 1 20 100;protect 0;");
        CHECKS.due("61: a space, none without members: bytes", 2, () -> x.printPool(0));
        CHECKS.due("61: a space, none without members", "=0", () -> Checks.output(x));
        CHECKS.due("61: one member: bytes", 7, () -> x.printPool(1));
        CHECKS.due("61: one member", "0* =100", () -> Checks.output(x));
        x.grow(1, 1);
        x.protect(1, true);
        x.printPool(1);
        CHECKS.due("61: a star and a minus sign", "0* 1*- =100", () -> Checks.output(x));
        x.drop(x.grow(1, 1) - 1);
        x.printPool(1);
        CHECKS.due("61: in place of what it had", "0* 1*- =100", () -> Checks.output(x));
        x.printPool(0);
        CHECKS.due("61: shorter than what it had", "=0", () -> Checks.output(x));
        for (int pool : new int[] {-1, 2, LEAST, GREATEST}) {
            CHECKS.throwsBounds("61: if there is no such pool: " + pool, () -> x.printPool(pool));
        }
        CHECKS.due("61: what it had stays then", "=0", () -> Checks.output(x));

        PoolScaler full = Checks.pools("pool 20 20 100;".repeat(4));
        full.printPool(0);
        CHECKS.due("61: numbers of one and two digits", "0 1 2 3 4 5 6 7 8 9 10 11 12 13 14 15 16 17 18 19 =2000", () -> Checks.output(full));
        CHECKS.due("61: 20 members: bytes", 20 * 3 + 5, () -> full.printPool(3));
        CHECKS.due("61: 20 members: the end", "79 =2000", () -> Checks.output(full).substring(57));
    }

    private static void printLongNumbers() {
        PoolScaler x = Checks.pools("pool 0 20 1;warm 0;");
        for (int i = 0; i < 98; i++) {
            x.grow(0, 1);
            x.drop(i);
        }
        x.grow(0, 4);
        x.printPool(0);
        CHECKS.due("61: numbers of two and three digits", "98 99 100 101 =4", () -> Checks.output(x));
    }

    private static void outputByte() {
        PoolScaler x = Checks.pools("pool 1 1 100;");
        CHECKS.due("62: -1 before anything is printed", -1, () -> x.outputByte(0));
        x.printPool(0);
        CHECKS.due("62: from 0", (int) '0', () -> x.outputByte(0));
        CHECKS.due("62: to the last one", (int) '0', () -> x.outputByte(5));
        for (int index : new int[] {-1, 6, 300, LEAST, GREATEST}) {
            CHECKS.due("62: -1 if there is no such byte: " + index, -1, () -> x.outputByte(index));
        }
    }
}
