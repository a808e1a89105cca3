/** Each sentence that names an edge in promises 27 to 36, 45, 46, 54, 55 and 63 to 65. */
final class EdgesOfChangesTest {
    private static final Checks CHECKS = new Checks();
    private static final int LEAST = Integer.MIN_VALUE;
    private static final int GREATEST = Integer.MAX_VALUE;

    public static void main(String[] args) {
        run();
        push();
        protect();
        grow();
        drop();
        pause();
        setPolicy();
        setTarget();
        setCool();
        setBounds();
        transfer();
        transferListedFirst();
        setLoad();
        dropCold();
        hurry();
        changesWithoutDifference();
        undo();
        undoOfARow();
        saveState();
        restoreState();
        CHECKS.end();
    }

    private static void run() {
        PoolScaler x = Checks.pools("pool 1 4 1;");
        for (int ticks : new int[] {0, -1, 301, LEAST, GREATEST}) {
            CHECKS.throwsArgument("27: if ticks is out of range: " + ticks, () -> x.run(ticks));
        }
        CHECKS.due("27: the time stays then", 0, () -> x.count(1));
        CHECKS.due("27: none come and go", 0, () -> x.run(1));
        CHECKS.due("27: 1 tick", 1, () -> x.count(1));
        CHECKS.due("27: 300 ticks are in range", 0, () -> x.run(300));
        CHECKS.due("27: 300 ticks", 301, () -> x.count(1));
        PoolScaler both = Checks.pools("pool 1 4 1;window 1;cool 0 0;load 4 0;");
        CHECKS.due("27: those that come and those that go", 4, () -> both.run(4));
        CHECKS.due("27: each is an event", 4, () -> both.count(4));
        CHECKS.due("27: in them, not before them", 1, () -> both.run(1));
    }

    private static void push() {
        PoolScaler x = Checks.pools("pool 1 4 1;load 999;");
        for (int load : new int[] {-1, 1000, LEAST, GREATEST}) {
            CHECKS.throwsArgument("28: if load is out of range: " + load, () -> x.push(0, load));
            CHECKS.throwsBounds("28: listed first: " + load, () -> x.push(1, load));
        }
        CHECKS.due("28: 0", 0, () -> x.push(0, 0));
        CHECKS.due("28: 998", 998, () -> x.push(0, 998));
        CHECKS.due("28: 999", 999, () -> x.push(0, 1));
        CHECKS.due("28: never more than 999", 999, () -> x.push(0, 1));
        CHECKS.due("28: what would be more is lost", 999, () -> x.push(0, 999));
        CHECKS.due("28: with a load on top", 1998, () -> x.planned(0, 0));
        x.run(1);
        CHECKS.due("28: its next demand is so much more", 1998, () -> x.demand(0, 0));
        CHECKS.due("28: nothing is pushed then", 0, () -> x.push(0, 0));
        x.run(1);
        CHECKS.due("28: its next demand alone", 999, () -> x.demand(0, 0));
        CHECKS.due("28: 999 at once", 999, () -> x.push(0, 999));
    }

    private static void protect() {
        PoolScaler x = Checks.pools("pool 1 4 1;pool 1 4 1;");
        for (int member : new int[] {-1, 2, LEAST, GREATEST}) {
            CHECKS.throwsMissing("29: if there is no such member: " + member, () -> x.protect(member, true));
        }
        CHECKS.due("29: the last one", false, () -> x.protect(1, true));
        CHECKS.due("29: whether it was before", true, () -> x.protect(1, true));
        CHECKS.due("29: lets it be dropped again", true, () -> x.protect(1, false));
        CHECKS.due("29: whether it was before: not", false, () -> x.protect(1, false));
        x.grow(0, 1);
        x.drop(2);
        CHECKS.throwsMissing("29: if there is no such member: it went", () -> x.protect(2, true));
    }

    private static void grow() {
        PoolScaler x = Checks.pools("pool 1 8 1;warm 9;pool 0 20 1;warm 0;");
        for (int many : new int[] {0, -1, 6, LEAST, GREATEST}) {
            CHECKS.throwsArgument("30: if many is out of range: " + many, () -> x.grow(0, many));
            CHECKS.throwsBounds("30: listed first: " + many, () -> x.grow(2, many));
        }
        CHECKS.due("30: 1", 2, () -> x.grow(0, 1));
        CHECKS.due("30: 5", 7, () -> x.grow(0, 5));
        CHECKS.throwsState("30: if its size would be greater than MAX", () -> x.grow(0, 2));
        CHECKS.throwsArgument("30: out of range is listed first", () -> x.grow(0, 6));
        CHECKS.due("30: a refused call adds none", 7, () -> x.pool(0, 3));
        CHECKS.due("30: its size can be MAX", 8, () -> x.grow(0, 1));
        CHECKS.throwsState("30: a full pool", () -> x.grow(0, 1));
        CHECKS.due("30: ready from now + WARM on", 9, () -> x.member(7, 2));
        for (int i = 0; i < 4; i++) {
            x.grow(1, 5);
        }
        CHECKS.due("30: up to 20", 20, () -> x.pool(1, 4));
        CHECKS.throwsState("30: not more than 20", () -> x.grow(1, 1));
        x.setBounds(1, 0, 1);
        CHECKS.throwsState("30: far above MAX", () -> x.grow(1, 5));
    }

    private static void drop() {
        PoolScaler x = Checks.pools("pool 2 4 1;pool 0 4 1;");
        for (int member : new int[] {-1, 2, LEAST, GREATEST}) {
            CHECKS.throwsMissing("31: if there is no such member: " + member, () -> x.drop(member));
        }
        CHECKS.throwsState("31: its pool has MIN members", () -> x.drop(0));
        x.grow(0, 2);
        x.setBounds(0, 3, 4);
        x.protect(0, true);
        CHECKS.throwsState("31: it is protected", () -> x.drop(0));
        CHECKS.due("31: one more than MIN", 3, () -> x.drop(1));
        CHECKS.throwsState("31: MIN then", () -> x.drop(2));
        CHECKS.throwsMissing("31: it went", () -> x.drop(1));
        x.setBounds(0, 4, 4);
        CHECKS.throwsState("31: fewer than MIN members", () -> x.drop(2));
        CHECKS.throwsState("31: protected and fewer than MIN", () -> x.drop(0));
        x.grow(1, 1);
        CHECKS.due("31: to a size of 0", 0, () -> x.drop(4));
        CHECKS.due("31: the size then", 0, () -> x.pool(1, 3));
    }

    private static void pause() {
        PoolScaler x = Checks.pools("pool 1 4 1;");
        for (int pool : new int[] {-1, 1, 4, LEAST, GREATEST}) {
            CHECKS.throwsBounds("32: if there is no such pool: " + pool, () -> x.pause(pool, true));
        }
        CHECKS.due("32: whether it was before: not", false, () -> x.pause(0, false));
        CHECKS.due("32: pauses", false, () -> x.pause(0, true));
        CHECKS.due("32: whether it was before", true, () -> x.pause(0, true));
        CHECKS.due("32: goes on", true, () -> x.pause(0, false));
        CHECKS.due("32: goes on already", false, () -> x.pause(0, false));
    }

    private static void setPolicy() {
        PoolScaler x = Checks.pools("pool 1 4 1;");
        int[][] wrong = {{-1, 0}, {3, 0}, {3, 2}, {LEAST, 0}, {GREATEST, 2}, {2, 1}, {2, 25}, {2, 0}, {2, -1}, {2, LEAST},
            {2, GREATEST}, {0, 1}, {0, 2}, {0, -1}, {1, 1}, {1, 24}, {1, LEAST}};
        for (int[] one : wrong) {
            String what = one[0] + ", " + one[1];
            CHECKS.throwsArgument("33: if policy or period is out of range: " + what, () -> x.setPolicy(0, one[0], one[1]));
            CHECKS.throwsBounds("33: listed first: " + what, () -> x.setPolicy(1, one[0], one[1]));
        }
        CHECKS.due("33: the policy stays then", 0, () -> x.setPolicy(0, 2, 2));
        CHECKS.due("33: the least PERIOD", 2, () -> x.pool(0, 11));
        CHECKS.due("33: the greatest PERIOD", 2, () -> x.setPolicy(0, 2, 24));
        CHECKS.due("33: the greatest PERIOD is set", 24, () -> x.pool(0, 11));
        CHECKS.due("33: 0 for another one", 2, () -> x.setPolicy(0, 1, 0));
        CHECKS.due("33: the policy before", 1, () -> x.setPolicy(0, 0, 0));
    }

    private static void setTarget() {
        PoolScaler x = Checks.pools("pool 1 4 1;");
        for (int target : new int[] {9, 101, 0, -1, LEAST, GREATEST}) {
            CHECKS.throwsArgument("34: if target is out of range: " + target, () -> x.setTarget(0, target));
            CHECKS.throwsBounds("34: listed first: " + target, () -> x.setTarget(1, target));
        }
        CHECKS.due("34: 10", 70, () -> x.setTarget(0, 10));
        CHECKS.due("34: 100", 10, () -> x.setTarget(0, 100));
        CHECKS.due("34: TARGET before", 100, () -> x.setTarget(0, 100));
    }

    private static void setCool() {
        PoolScaler x = Checks.pools("pool 1 4 1;");
        for (int cool : new int[] {-1, 31, LEAST, GREATEST}) {
            CHECKS.throwsArgument("35: if up is out of range: " + cool, () -> x.setCool(0, cool, 0));
            CHECKS.throwsArgument("35: if down is out of range: " + cool, () -> x.setCool(0, 0, cool));
            CHECKS.throwsBounds("35: listed first: " + cool, () -> x.setCool(1, cool, cool));
        }
        CHECKS.due("35: 0", 305, () -> x.setCool(0, 0, 0));
        CHECKS.due("35: 0 before", 0, () -> x.setCool(0, 30, 30));
        CHECKS.due("35: 30 before", 3030, () -> x.setCool(0, 0, 30));
        CHECKS.due("35: 100 * COOLUP + COOLDOWN before", 30, () -> x.setCool(0, 30, 0));
    }

    private static void setBounds() {
        PoolScaler x = Checks.pools("pool 5 5 1;cool 0 0;load 9;");
        int[][] wrong = {{-1, 5}, {21, 21}, {0, 0}, {0, 21}, {5, 4}, {20, 19}, {1, 0}, {LEAST, 5}, {0, GREATEST}, {GREATEST, 5}, {0, LEAST}};
        for (int[] one : wrong) {
            String what = one[0] + ", " + one[1];
            CHECKS.throwsArgument("36: if min or max is out of range: " + what, () -> x.setBounds(0, one[0], one[1]));
            CHECKS.throwsBounds("36: listed first: " + what, () -> x.setBounds(1, one[0], one[1]));
        }
        CHECKS.due("36: the least ones", 505, () -> x.setBounds(0, 0, 1));
        CHECKS.due("36: members that are too many stay", 5, () -> x.pool(0, 3));
        CHECKS.due("36: until a tick decides", "1", () -> Checks.decisions(x, 0, 1));
        CHECKS.due("36: MIN is MAX", 1, () -> x.setBounds(0, 20, 20));
        CHECKS.due("36: members that are too few stay", 4, () -> x.pool(0, 3));
        CHECKS.due("36: until a tick decides again", "0", () -> Checks.decisions(x, 0, 1));
        CHECKS.due("36: 100 * MIN + MAX before", 2020, () -> x.setBounds(0, 0, 20));
        CHECKS.due("36: 100 * MIN + MAX before, of 0", 20, () -> x.setBounds(0, 19, 20));
    }

    private static void transfer() {
        PoolScaler x = Checks.pools("pool 2 4 1;warm 9;pool 0 2 1;warm 0;pool 1 1 1;");
        CHECKS.throwsState("45: its pool has MIN members", () -> x.transfer(0, 1));
        x.grow(0, 2);
        x.setBounds(0, 1, 4);
        x.protect(0, true);
        CHECKS.throwsState("45: it is protected", () -> x.transfer(0, 1));
        CHECKS.throwsState("45: that one has MAX members", () -> x.transfer(1, 2));
        CHECKS.throwsArgument("45: it is in this pool", () -> x.transfer(1, 0));
        for (int pool : new int[] {-1, 3, 4, LEAST, GREATEST}) {
            CHECKS.throwsBounds("45: if there is no such pool: " + pool, () -> x.transfer(1, pool));
        }
        for (int member : new int[] {-1, 5, LEAST, GREATEST}) {
            CHECKS.throwsMissing("45: if there is no such member: " + member, () -> x.transfer(member, 1));
        }
        CHECKS.due("45: refused calls are no events", 2, () -> x.count(4));
        CHECKS.due("45: to an empty pool", 5, () -> x.transfer(1, 1));
        CHECKS.due("45: ready from now + WARM of that pool on", 0, () -> x.member(5, 2));
        CHECKS.due("45: to its MAX", 6, () -> x.transfer(3, 1));
        CHECKS.throwsState("45: that one has MAX members then", () -> x.transfer(4, 1));
        x.setBounds(1, 0, 1);
        CHECKS.throwsState("45: that one has more than MAX members", () -> x.transfer(4, 1));
        x.setBounds(1, 0, 3);
        CHECKS.due("45: one more than MIN", 7, () -> x.transfer(4, 1));
        CHECKS.throwsState("45: MIN then", () -> x.transfer(0, 1));
        x.protect(0, false);
        x.setBounds(0, 2, 4);
        x.setBounds(1, 0, 9);
        CHECKS.throwsState("45: fewer than MIN members", () -> x.transfer(0, 1));
        x.setBounds(0, 0, 4);
        CHECKS.due("45: the last one", 8, () -> x.transfer(0, 1));
        CHECKS.due("45: it leaves an empty pool", 0, () -> x.pool(0, 3));
        CHECKS.throwsMissing("45: its old number is gone", () -> x.transfer(0, 1));
        CHECKS.due("45: back again, with WARM of that pool", 9, () -> x.transfer(8, 0));
        CHECKS.due("45: ready from now + WARM of that pool on, 9", 9, () -> x.member(9, 2));
    }

    private static void transferListedFirst() {
        PoolScaler x = Checks.pools("pool 1 4 1;protect 0;pool 1 1 1;protect 0;pool 0 4 1;");
        CHECKS.throwsBounds("45: no such pool is listed first: no such member", () -> x.transfer(9, 3));
        CHECKS.throwsBounds("45: no such pool is listed first: protected", () -> x.transfer(0, 3));
        CHECKS.throwsArgument("45: in this pool comes before protected", () -> x.transfer(0, 0));
        CHECKS.throwsArgument("45: in this pool comes before MAX members", () -> x.transfer(1, 1));
        CHECKS.throwsState("45: MAX members come before no such member", () -> x.transfer(9, 1));
        CHECKS.throwsMissing("45: no such member, and room", () -> x.transfer(9, 2));
        CHECKS.throwsMissing("45: no such member, into a pool with MIN members", () -> x.transfer(9, 0));
    }

    private static void setLoad() {
        PoolScaler x = Checks.pools("pool 1 4 1;load" + " 5".repeat(24) + ";pool 1 4 1;load 7;pool 1 4 1;");
        for (int load : new int[] {-1, 1000, LEAST, GREATEST}) {
            CHECKS.throwsArgument("46: if load is out of range: " + load, () -> x.setLoad(0, 0, load));
            CHECKS.throwsArgument("46: out of range comes before no such index: " + load, () -> x.setLoad(0, 24, load));
            CHECKS.throwsBounds("46: listed first: " + load, () -> x.setLoad(3, 24, load));
        }
        for (int index : new int[] {-1, 24, LEAST, GREATEST}) {
            CHECKS.throwsMissing("46: if there is no such index: " + index, () -> x.setLoad(0, index, 1));
        }
        CHECKS.due("46: from 0", 5, () -> x.setLoad(0, 0, 0));
        CHECKS.due("46: to the last one", 5, () -> x.setLoad(0, 23, 999));
        CHECKS.due("46: the number before: 0", 0, () -> x.setLoad(0, 0, 1));
        CHECKS.due("46: the number before: 999", 999, () -> x.setLoad(0, 23, 2));
        CHECKS.due("46: of one number", 7, () -> x.setLoad(1, 0, 8));
        CHECKS.due("46: of one number: for each tick", 8, () -> x.planned(1, 5));
        CHECKS.throwsMissing("46: of one number: no second one", () -> x.setLoad(1, 1, 8));
        CHECKS.throwsMissing("46: without a load statement", () -> x.setLoad(2, 0, 8));
    }

    private static void dropCold() {
        PoolScaler x = Checks.pools("pool 0 9 1;warm 2;pool 3 9 1;");
        for (int pool : new int[] {-1, 2, 4, LEAST, GREATEST}) {
            CHECKS.throwsBounds("54: if there is no such pool: " + pool, () -> x.dropCold(pool));
        }
        CHECKS.due("54: a pool without members", 0, () -> x.dropCold(0));
        CHECKS.due("54: This is a change, also if there are none", 1, () -> x.count(5));
        x.grow(0, 3);
        x.protect(4, true);
        CHECKS.due("54: not those that are protected", 2, () -> x.dropCold(0));
        CHECKS.due("54: those with the greatest numbers first", 5, () -> x.event(1, 3));
        CHECKS.due("54: the smallest number last", 3, () -> x.event(0, 3));
        CHECKS.due("54: the protected one stays", 4, () -> x.memberAt(0, 0));
        CHECKS.due("54: none that is ready", 0, () -> x.dropCold(1));
        x.grow(1, 3);
        x.setBounds(1, 5, 9);
        CHECKS.due("54: as long as it has more than MIN members", 1, () -> x.dropCold(1));
        CHECKS.due("54: MIN then", 5, () -> x.pool(1, 3));
        CHECKS.due("54: at MIN none", 0, () -> x.dropCold(1));
        x.setBounds(1, 9, 9);
        CHECKS.due("54: below MIN none", 0, () -> x.dropCold(1));
        x.setBounds(1, 0, 9);
        x.pause(1, true);
        x.run(1);
        CHECKS.due("54: not ready now: one too early", 2, () -> x.dropCold(1));
        x.undo();
        x.run(1);
        CHECKS.due("54: ready now", 0, () -> x.dropCold(1));
        CHECKS.due("54: by hand: no cool-down", 0, () -> x.coolLeft(1, false));
        PoolScaler empty = Checks.pools("pool 0 9 1;");
        empty.grow(0, 5);
        CHECKS.due("54: to a size of 0", 5, () -> empty.dropCold(0));
        CHECKS.due("54: a size of 0", 0, () -> empty.pool(0, 3));
    }

    private static void hurry() {
        PoolScaler x = Checks.pools("pool 1 9 1;cool 30 30;load 9 9 9 0;window 1;target 100;pool 1 9 1;cool 30 30;load 9;");
        for (int pool : new int[] {-1, 2, 4, LEAST, GREATEST}) {
            CHECKS.throwsBounds("55: if there is no such pool: " + pool, () -> x.hurry(pool));
        }
        CHECKS.due("55: no tick passes then", 0, () -> x.count(1));
        CHECKS.due("55: it grows", 0, () -> x.hurry(0));
        CHECKS.due("55: its cool-downs begin with this tick: growing", 29, () -> x.coolLeft(0, true));
        CHECKS.due("55: its cool-downs begin with this tick: shrinking", 29, () -> x.coolLeft(0, false));
        CHECKS.due("55: it grows though it cools down", 0, () -> x.hurry(0));
        CHECKS.due("55: not the other pool", 4, () -> x.pool(1, 20));
        CHECKS.due("55: its cool-downs back", 3030, () -> x.setCool(0, 30, 30));
        CHECKS.due("55: without it it waits", "4", () -> Checks.decisions(x, 0, 1));
        CHECKS.due("55: it shrinks though it cools down", 1, () -> x.hurry(0));
        CHECKS.due("55: COOLDOWN begins with this tick", 29, () -> x.coolLeft(0, false));
        CHECKS.due("55: COOLUP began when it grew", 27, () -> x.coolLeft(0, true));
        x.setBounds(0, 2, 2);
        CHECKS.due("55: neither grows nor shrinks", 2, () -> x.hurry(0));
        CHECKS.due("55: no cool-down begins then", 28, () -> x.coolLeft(0, false));
        x.pause(0, true);
        CHECKS.due("55: a pool that is paused", 3, () -> x.hurry(0));
        int left = x.count(5);
        CHECKS.due("55: This is one change", left - 1, x::undo);
        CHECKS.due("55: undone with its tick", 5, () -> x.count(1));
    }

    private static void changesWithoutDifference() {
        PoolScaler x = Checks.pools("pool 1 4 1;load 3;");
        x.push(0, 0);
        CHECKS.due("also if nothing is different then: push", 1, () -> x.count(5));
        x.protect(0, false);
        CHECKS.due("also if nothing is different then: protect", 2, () -> x.count(5));
        x.pause(0, false);
        CHECKS.due("also if nothing is different then: pause", 3, () -> x.count(5));
        x.setPolicy(0, 0, 0);
        CHECKS.due("also if nothing is different then: setPolicy", 4, () -> x.count(5));
        x.setTarget(0, 70);
        CHECKS.due("also if nothing is different then: setTarget", 5, () -> x.count(5));
        x.setCool(0, 3, 5);
        CHECKS.due("also if nothing is different then: setCool", 6, () -> x.count(5));
        x.setBounds(0, 1, 4);
        CHECKS.due("also if nothing is different then: setBounds", 7, () -> x.count(5));
        x.setLoad(0, 0, 3);
        CHECKS.due("also if nothing is different then: setLoad", 8, () -> x.count(5));
        x.dropCold(0);
        CHECKS.due("also if nothing is different then: dropCold", 9, () -> x.count(5));
    }

    private static void undo() {
        PoolScaler x = Checks.pools("pool 1 4 1;");
        CHECKS.due("63: -1 if there was none", -1, x::undo);
        for (int made = 1; made <= 12; made++) {
            x.push(0, 1);
        }
        CHECKS.due("63: The latest 10 changes can be undone", 10, () -> x.count(5));
        for (int left = 9; left >= 0; left--) {
            int pushed = 2 + left;
            CHECKS.due("63: the number of changes that can still be undone", left, x::undo);
            CHECKS.due("63: the latest change that was not undone", pushed, () -> x.planned(0, 0));
        }
        CHECKS.due("63: -1 if there is none any more", -1, x::undo);
        CHECKS.due("63: the eleventh one stays", 2, () -> x.planned(0, 0));
        x.push(0, 5);
        x.push(0, 6);
        CHECKS.due("63: one of two", 1, x::undo);
        x.push(0, 9);
        CHECKS.due("63: a new one instead of it", 2, () -> x.count(5));
        CHECKS.due("63: the new one first", 1, x::undo);
        CHECKS.due("63: then the older one", 7, () -> x.planned(0, 0));

        PoolScaler full = Checks.pools("pool 20 20 100;load 1 2 3;".repeat(4));
        String before = Checks.picture(full);
        full.setBounds(3, 0, 20);
        full.run(300);
        full.undo();
        full.undo();
        CHECKS.due("63: all of four full pools", before, () -> Checks.picture(full));
    }

    private static void undoOfARow() {
        PoolScaler x = Checks.pools("pool 1 1 10;load 11;");
        x.run(3);
        x.setLoad(0, 0, 0);
        x.run(1);
        x.undo();
        x.undo();
        x.run(1);
        CHECKS.due("63: a row of misses goes on where it was", 4, () -> x.longestMiss(0));
    }

    private static void saveState() {
        PoolScaler x = Checks.pools("pool 1 4 1;");
        CHECKS.due("64: at 0", 0, x::saveState);
        CHECKS.due("64: no change", 0, () -> x.count(5));
        x.run(3);
        CHECKS.due("64: in place of an earlier saved state", 3, x::saveState);
        x.run(3);
        CHECKS.due("64: the earlier one is gone", 3, x::restoreState);
        x.push(0, 4);
        x.saveState();
        x.push(0, 5);
        CHECKS.due("64: the changes that can be undone stay", 2, () -> x.count(5));
        x.undo();
        x.undo();
        CHECKS.due("64: undoing does not touch it", 0, () -> x.planned(0, 0));
        x.restoreState();
        CHECKS.due("64: what is pushed is saved", 4, () -> x.planned(0, 0));
    }

    private static void restoreState() {
        PoolScaler x = Checks.pools("pool 1 4 1;");
        x.push(0, 1);
        CHECKS.throwsState("65: if no state is saved", x::restoreState);
        CHECKS.due("65: what can be undone stays then", 1, () -> x.count(5));
        x.saveState();
        x.run(2);
        CHECKS.due("65: the time", 0, x::restoreState);
        CHECKS.due("65: Nothing can be undone then", -1, x::undo);
        CHECKS.due("65: Nothing can be undone then: count", 0, () -> x.count(5));
        x.run(5);
        CHECKS.due("65: which stays saved", 0, x::restoreState);
        x.run(5);
        x.restoreState();
        x.grow(0, 1);
        x.restoreState();
        CHECKS.due("65: what came is saved, too", 1, () -> x.count(3));
        Checks.load(x, "pool 1 4 1;");
        CHECKS.throwsState("65: a load forgets it", x::restoreState);
        x.saveState();
        Checks.load(x, "");
        CHECKS.due("65: a load that is refused does not", 0, x::restoreState);
        CHECKS.due("65: nor does it save the reported error", PoolScaler.NO_POOL, x::errorCode);
    }
}
