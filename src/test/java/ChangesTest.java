/** Promises 27 to 36, 45, 46, 54 and 55: the changes. */
final class ChangesTest {
    private static final Checks CHECKS = new Checks();

    public static void main(String[] args) {
        wrongPools();
        throwingChangesNothing();
        run();
        push();
        protect();
        grow();
        drop();
        pause();
        setPolicy();
        setTarget();
        setCool();
        setBounds();
        transfer();
        setLoad();
        dropCold();
        hurry();
        CHECKS.end();
    }

    private static void wrongPools() {
        PoolScaler x = Checks.pools("pool 1 2 3;pool 1 2 3;");
        for (int pool : new int[] {-1, 2, 3, 4, Integer.MIN_VALUE, Integer.MAX_VALUE}) {
            CHECKS.throwsBounds("28: push(" + pool + ")", () -> x.push(pool, -1));
            CHECKS.throwsBounds("30: grow(" + pool + ")", () -> x.grow(pool, 9));
            CHECKS.throwsBounds("32: pause(" + pool + ")", () -> x.pause(pool, true));
            CHECKS.throwsBounds("33: setPolicy(" + pool + ")", () -> x.setPolicy(pool, 3, 0));
            CHECKS.throwsBounds("34: setTarget(" + pool + ")", () -> x.setTarget(pool, 0));
            CHECKS.throwsBounds("35: setCool(" + pool + ")", () -> x.setCool(pool, -1, 0));
            CHECKS.throwsBounds("36: setBounds(" + pool + ")", () -> x.setBounds(pool, -1, 0));
            CHECKS.throwsBounds("45: transfer to " + pool, () -> x.transfer(99, pool));
            CHECKS.throwsBounds("46: setLoad(" + pool + ")", () -> x.setLoad(pool, -1, -1));
            CHECKS.throwsBounds("54: dropCold(" + pool + ")", () -> x.dropCold(pool));
            CHECKS.throwsBounds("55: hurry(" + pool + ")", () -> x.hurry(pool));
        }
        CHECKS.due("a method that throws is no change", 0, () -> x.count(5));
    }

    private static void throwingChangesNothing() {
        PoolScaler x = Checks.pools("pool 1 2 3;load 1;pool 1 1 3;");
        CHECKS.throwsArgument("27", () -> x.run(0));
        CHECKS.throwsArgument("28", () -> x.push(0, 1000));
        CHECKS.throwsMissing("29", () -> x.protect(7, true));
        CHECKS.throwsState("30", () -> x.grow(0, 2));
        CHECKS.throwsState("31", () -> x.drop(0));
        CHECKS.throwsArgument("33", () -> x.setPolicy(0, 2, 1));
        CHECKS.throwsArgument("34", () -> x.setTarget(0, 101));
        CHECKS.throwsArgument("35", () -> x.setCool(0, 1, 31));
        CHECKS.throwsArgument("36", () -> x.setBounds(0, 1, 21));
        CHECKS.throwsState("45", () -> x.transfer(0, 1));
        CHECKS.throwsMissing("46", () -> x.setLoad(0, 1, 5));
        CHECKS.due("nothing to undo", 0, () -> x.count(5));
        CHECKS.due("the time stays", 0, () -> x.count(1));
        CHECKS.due("no events", 0, () -> x.count(4));
        CHECKS.due("nothing is pushed", 1, () -> x.planned(0, 0));
        CHECKS.due("the cool-downs stay", 305, () -> x.setCool(0, 0, 0));
        CHECKS.due("the bounds stay", 102, () -> x.setBounds(0, 0, 1));
    }

    private static void run() {
        PoolScaler x = Checks.pools("pool 1 9 10;load 60;cool 0 0;");
        CHECKS.throwsArgument("27: run(0)", () -> x.run(0));
        CHECKS.throwsArgument("27: run(301)", () -> x.run(301));
        CHECKS.throwsArgument("27: run(-1)", () -> x.run(-1));
        CHECKS.throwsArgument("27: run(the greatest int)", () -> x.run(Integer.MAX_VALUE));
        CHECKS.due("27: members that come", 8, () -> x.run(300));
        CHECKS.due("27: the time", 300, () -> x.count(1));
        x.setBounds(0, 0, 9);
        x.setLoad(0, 0, 0);
        CHECKS.due("27: members that go", 9, () -> x.run(20));
        CHECKS.due("27: one change", 4, () -> x.count(5));
    }

    private static void push() {
        PoolScaler x = Checks.pools("pool 1 9 10;load 60;");
        CHECKS.due("28: push", 5, () -> x.push(0, 5));
        CHECKS.due("28: push more", 12, () -> x.push(0, 7));
        CHECKS.due("28: push nothing is a change", 12, () -> x.push(0, 0));
        CHECKS.due("28: three changes", 3, () -> x.count(5));
        CHECKS.due("28: up to 999", 999, () -> x.push(0, 987));
        CHECKS.due("28: what is more is lost", 999, () -> x.push(0, 999));
        CHECKS.throwsArgument("28: push(0, 1000)", () -> x.push(0, 1000));
        CHECKS.throwsArgument("28: push(0, -1)", () -> x.push(0, -1));
        x.run(1);
        CHECKS.due("28: the demand", 1059, () -> x.demand(0, 0));
        CHECKS.due("28: nothing is left", 3, () -> x.push(0, 3));
    }

    private static void protect() {
        PoolScaler x = Checks.pools("pool 2 9 10;");
        CHECKS.due("29: protect", false, () -> x.protect(1, true));
        CHECKS.due("29: again", true, () -> x.protect(1, true));
        CHECKS.due("29: protected", 1, () -> x.member(1, 4));
        CHECKS.due("29: let go", true, () -> x.protect(1, false));
        CHECKS.due("29: again", false, () -> x.protect(1, false));
        CHECKS.due("29: four changes", 4, () -> x.count(5));
        CHECKS.throwsMissing("29: no such member", () -> x.protect(2, true));
        CHECKS.throwsMissing("29: -1", () -> x.protect(-1, true));
    }

    private static void grow() {
        PoolScaler x = Checks.pools("pool 1 7 10;warm 4;load 70;pool 1 9 10;");
        x.run(2);
        int growsLeft = x.coolLeft(0, true);
        CHECKS.due("30: grow", 7, () -> x.grow(0, 5));
        CHECKS.due("30: came now", 2, () -> x.member(7, 1));
        CHECKS.due("30: ready from now + WARM on", 6, () -> x.member(7, 2));
        CHECKS.due("30: not protected", 0, () -> x.member(7, 4));
        CHECKS.due("30: an event for each", 6, () -> x.count(4));
        CHECKS.due("30: its time", 2, () -> x.event(0, 0));
        CHECKS.due("30: no cool-down begins", growsLeft, () -> x.coolLeft(0, true));
        CHECKS.due("30: no decision", 4, () -> x.pool(0, 20));
        CHECKS.throwsState("30: more than MAX", () -> x.grow(0, 1));
        CHECKS.throwsArgument("30: six, and more than MAX", () -> x.grow(0, 6));
        CHECKS.throwsArgument("30: none", () -> x.grow(0, 0));
        CHECKS.throwsArgument("30: -1", () -> x.grow(0, -1));
        CHECKS.due("30: the other pool", 2, () -> x.grow(1, 1));
        CHECKS.due("30: no cool-down for growing", 0, () -> x.coolLeft(1, true));
        CHECKS.due("30: no cool-down for shrinking", 0, () -> x.coolLeft(1, false));
        PoolScaler y = Checks.pools("pool 1 20 10;warm 0;");
        CHECKS.due("30: WARM 0", 2, () -> y.grow(0, 1));
        CHECKS.due("30: ready at once", 20, () -> y.headroom(0));
    }

    private static void drop() {
        PoolScaler x = Checks.pools("pool 2 7 10;pool 1 7 10;");
        x.grow(0, 2);
        x.protect(1, true);
        CHECKS.throwsState("31: protected", () -> x.drop(1));
        CHECKS.throwsState("31: MIN members", () -> x.drop(2));
        CHECKS.throwsMissing("31: no such member", () -> x.drop(5));
        CHECKS.throwsMissing("31: -1", () -> x.drop(-1));
        CHECKS.due("31: drop", 3, () -> x.drop(0));
        CHECKS.due("31: the event", 1, () -> x.event(0, 1));
        CHECKS.due("31: no cool-down", 0, () -> x.coolLeft(0, false));
        CHECKS.throwsMissing("31: it is gone", () -> x.drop(0));
        x.setBounds(0, 4, 7);
        CHECKS.throwsState("31: fewer than MIN members", () -> x.drop(3));
        x.setBounds(0, 2, 7);
        CHECKS.due("31: one more than MIN", 2, () -> x.drop(3));
        CHECKS.throwsState("31: MIN then", () -> x.drop(4));
    }

    private static void pause() {
        PoolScaler x = Checks.pools("pool 1 7 10;load 70;pool 1 7 10;load 70;");
        CHECKS.due("32: pause", false, () -> x.pause(0, true));
        CHECKS.due("32: again", true, () -> x.pause(0, true));
        CHECKS.due("32: the other pool grows", 1, () -> x.run(1));
        CHECKS.due("32: decision 3", 3, () -> x.pool(0, 20));
        CHECKS.due("32: the demand is met", 10L, () -> x.served(0));
        CHECKS.due("32: the forecast is made", 70, () -> x.forecast(0));
        CHECKS.due("32: go on", true, () -> x.pause(0, false));
        CHECKS.due("32: goes on already", false, () -> x.pause(0, false));
        CHECKS.due("32: grows", "0", () -> Checks.decisions(x, 0, 1));
    }

    private static void setPolicy() {
        PoolScaler x = Checks.pools("pool 1 7 10;policy season 5;");
        CHECKS.due("33: it was season", 2, () -> x.setPolicy(0, 1, 0));
        CHECKS.due("33: trend", 1, () -> x.pool(0, 10));
        CHECKS.due("33: no PERIOD", 0, () -> x.pool(0, 11));
        CHECKS.due("33: it was trend", 1, () -> x.setPolicy(0, 2, 24));
        CHECKS.due("33: PERIOD", 24, () -> x.pool(0, 11));
        CHECKS.due("33: it was season", 2, () -> x.setPolicy(0, 2, 2));
        CHECKS.due("33: PERIOD 2", 2, () -> x.pool(0, 11));
        CHECKS.due("33: to watch", 2, () -> x.setPolicy(0, 0, 0));
        int[][] wrong = {{-1, 0}, {3, 0}, {3, 5}, {0, 1}, {0, -1}, {1, 2}, {2, 1}, {2, 0}, {2, 25}, {2, -5}};
        for (int[] one : wrong) {
            CHECKS.throwsArgument("33: setPolicy(0, " + one[0] + ", " + one[1] + ")", () -> x.setPolicy(0, one[0], one[1]));
        }
        CHECKS.due("33: four changes", 4, () -> x.count(5));
    }

    private static void setTarget() {
        PoolScaler x = Checks.pools("pool 1 7 10;load 20;window 1;");
        CHECKS.due("34: it was 70", 70, () -> x.setTarget(0, 10));
        x.run(1);
        CHECKS.due("34: wanted then", 7, () -> x.wanted(0));
        CHECKS.due("34: it was 10", 10, () -> x.setTarget(0, 100));
        x.run(1);
        CHECKS.due("34: wanted then", 2, () -> x.wanted(0));
        CHECKS.throwsArgument("34: 9", () -> x.setTarget(0, 9));
        CHECKS.throwsArgument("34: 101", () -> x.setTarget(0, 101));
    }

    private static void setCool() {
        PoolScaler x = Checks.pools("pool 1 7 10;load 70;");
        CHECKS.due("35: it was 3 and 5", 305, () -> x.setCool(0, 0, 30));
        CHECKS.due("35: no COOLUP", "000", () -> Checks.decisions(x, 0, 3));
        CHECKS.due("35: COOLDOWN", 29, () -> x.coolLeft(0, false));
        CHECKS.due("35: it was 0 and 30", 30, () -> x.setCool(0, 30, 0));
        int[][] wrong = {{-1, 0}, {31, 0}, {0, -1}, {0, 31}, {Integer.MIN_VALUE, Integer.MAX_VALUE}};
        for (int[] one : wrong) {
            CHECKS.throwsArgument("35: setCool(0, " + one[0] + ", " + one[1] + ")", () -> x.setCool(0, one[0], one[1]));
        }
        CHECKS.due("35: it was 30 and 0", 3000, () -> x.setCool(0, 1, 2));
    }

    private static void setBounds() {
        PoolScaler x = Checks.pools("pool 3 7 10;cool 0 0;");
        CHECKS.due("36: it was 3 and 7", 307, () -> x.setBounds(0, 0, 1));
        CHECKS.due("36: members stay", 3, () -> x.pool(0, 3));
        CHECKS.due("36: until ticks drop them", "11122", () -> Checks.decisions(x, 0, 5));
        CHECKS.due("36: it was 0 and 1", 1, () -> x.setBounds(0, 2, 2));
        CHECKS.due("36: none yet", 0, () -> x.pool(0, 3));
        CHECKS.due("36: until ticks bring them", "002", () -> Checks.decisions(x, 0, 3));
        int[][] wrong = {{-1, 5}, {0, 0}, {0, 21}, {21, 21}, {6, 5}, {1, -1}};
        for (int[] one : wrong) {
            CHECKS.throwsArgument("36: setBounds(0, " + one[0] + ", " + one[1] + ")", () -> x.setBounds(0, one[0], one[1]));
        }
        CHECKS.due("36: the greatest ones", 202, () -> x.setBounds(0, 20, 20));
    }

    private static void transfer() {
        PoolScaler x = Checks.pools("pool 1 4 10;pool 0 2 10;warm 7;pool 1 1 10;");
        x.grow(0, 3);
        x.pause(0, true);
        x.run(1);
        x.protect(3, true);
        CHECKS.throwsState("45: protected", () -> x.transfer(3, 1));
        CHECKS.throwsArgument("45: protected, in this pool", () -> x.transfer(3, 0));
        CHECKS.throwsState("45: that one is full", () -> x.transfer(0, 2));
        CHECKS.throwsState("45: MIN members", () -> x.transfer(1, 1));
        CHECKS.throwsMissing("45: no such member", () -> x.transfer(5, 1));
        CHECKS.throwsMissing("45: -1", () -> x.transfer(-1, 1));
        CHECKS.throwsState("45: no such member, and that one is full", () -> x.transfer(5, 2));
        CHECKS.due("45: its new number", 5, () -> x.transfer(0, 1));
        CHECKS.throwsMissing("45: the old number is gone", () -> x.member(0, 0));
        int[] due = {1, 1, 8, 0, 0};
        for (int what = 0; what < due.length; what++) {
            int asked = what;
            CHECKS.due("45: member(5, " + what + ")", due[what], () -> x.member(5, asked));
        }
        CHECKS.due("45: first it goes", 1, () -> x.event(1, 1));
        CHECKS.due("45: with its old number", 0, () -> x.event(1, 3));
        CHECKS.due("45: from its pool", 0, () -> x.event(1, 2));
        CHECKS.due("45: then it comes", 0, () -> x.event(0, 1));
        CHECKS.due("45: with its new number", 5, () -> x.event(0, 3));
        CHECKS.due("45: to that pool", 1, () -> x.event(0, 2));
        CHECKS.due("45: one change", 5, () -> x.count(5));
        CHECKS.due("45: no cool-down", 0, () -> x.coolLeft(1, false));
        CHECKS.due("45: up to MAX members", 6, () -> x.transfer(2, 1));
        CHECKS.throwsState("45: that one has MAX members", () -> x.transfer(4, 1));
        CHECKS.due("45: back again", 7, () -> x.transfer(5, 0));
        x.setBounds(0, 4, 4);
        CHECKS.throwsState("45: fewer than MIN members", () -> x.transfer(7, 1));
        x.protect(6, true);
        x.setBounds(0, 0, 9);
        CHECKS.due("45: beside a protected one", 8, () -> x.transfer(7, 1));
        CHECKS.due("45: the new one is not", 0, () -> x.member(8, 4));
    }

    private static void setLoad() {
        PoolScaler x = Checks.pools("pool 1 4 10;load 5 6;pool 1 4 10;");
        CHECKS.due("46: it was 6", 6, () -> x.setLoad(0, 1, 999));
        CHECKS.due("46: planned", 999, () -> x.planned(0, 1));
        CHECKS.due("46: the other number stays", 5, () -> x.planned(0, 0));
        CHECKS.due("46: it was 999", 999, () -> x.setLoad(0, 1, 0));
        CHECKS.throwsArgument("46: 1000", () -> x.setLoad(0, 0, 1000));
        CHECKS.throwsArgument("46: -1, and no such index", () -> x.setLoad(0, 2, -1));
        CHECKS.throwsMissing("46: index 2", () -> x.setLoad(0, 2, 1));
        CHECKS.throwsMissing("46: index -1", () -> x.setLoad(0, -1, 1));
        CHECKS.throwsMissing("46: without a load", () -> x.setLoad(1, 0, 1));
    }

    private static void dropCold() {
        PoolScaler x = Checks.pools("pool 2 9 10;warm 2;");
        CHECKS.due("54: none", 0, () -> x.dropCold(0));
        CHECKS.due("54: a change all the same", 1, () -> x.count(5));
        x.pause(0, true);
        x.grow(0, 2);
        x.run(1);
        x.grow(0, 3);
        x.protect(5, true);
        CHECKS.due("54: all that are not ready", 4, () -> x.dropCold(0));
        CHECKS.due("54: the greatest number went first", 6, () -> x.event(3, 3));
        CHECKS.due("54: the smallest one last", 2, () -> x.event(0, 3));
        CHECKS.due("54: the protected one stays", 5, () -> x.memberAt(0, 2));
        CHECKS.due("54: those that are ready stay", 3, () -> x.pool(0, 3));

        PoolScaler y = Checks.pools("pool 1 9 10;");
        y.grow(0, 3);
        y.setBounds(0, 3, 9);
        CHECKS.due("54: not below MIN", 1, () -> y.dropCold(0));
        CHECKS.due("54: the greatest one went", 2, () -> y.memberAt(0, 2));
        y.pause(0, true);
        y.run(2);
        y.setBounds(0, 0, 9);
        CHECKS.due("54: ready by now", 0, () -> y.dropCold(0));
        CHECKS.due("54: no cool-down", 0, () -> y.coolLeft(0, false));
    }

    private static void hurry() {
        PoolScaler x = Checks.pools("pool 1 9 10;cool 9 9;load 90;pool 1 9 10;cool 9 9;load 90;");
        x.run(1);
        CHECKS.due("55: it does not wait", 0, () -> x.hurry(0));
        CHECKS.due("55: the other pool does", 4, () -> x.pool(1, 20));
        CHECKS.due("55: one tick passes", 2, () -> x.count(1));
        CHECKS.due("55: the cool-downs are back", 909, () -> x.setCool(0, 9, 9));
        CHECKS.due("55: they begin with this tick", 8, () -> x.coolLeft(0, true));
        CHECKS.due("55: those of the other pool go on", 7, () -> x.coolLeft(1, true));
        x.undo();
        CHECKS.due("55: one change", 1, x::undo);
        CHECKS.due("55: as before", 1, () -> x.count(1));
        CHECKS.due("55: its size", 2, () -> x.pool(0, 3));
        x.pause(0, true);
        CHECKS.due("55: paused", 3, () -> x.hurry(0));
        PoolScaler y = Checks.pools("pool 1 9 10;cool 9 9;load 90 0 0 0;window 1;");
        y.run(1);
        CHECKS.due("55: it shrinks at once", 1, () -> y.hurry(0));
        CHECKS.due("55: COOLDOWN begins", 8, () -> y.coolLeft(0, false));
        CHECKS.due("55: COOLUP does not", 7, () -> y.coolLeft(0, true));
    }
}
