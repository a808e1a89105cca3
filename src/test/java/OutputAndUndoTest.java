/** Promises 61 to 65: the output, undoing and saving. */
final class OutputAndUndoTest {
    private static final Checks CHECKS = new Checks();

    public static void main(String[] args) {
        output();
        undo();
        undoOfEachChange();
        undoBringsAllBack();
        atMostTen();
        saving();
        CHECKS.end();
    }

    private static void output() {
        PoolScaler x = Checks.pools("pool 2 20 10;protect 1;pool 0 9 10;");
        CHECKS.due("62: nothing printed yet", -1, () -> x.outputByte(0));
        x.grow(0, 2);
        x.protect(3, true);
        x.pause(0, true);
        CHECKS.due("61: its length", 15, () -> x.printPool(0));
        CHECKS.due("61: what it writes", "0 1* 2- 3*- =20", () -> Checks.output(x));
        CHECKS.due("62: byte 3", (int) '*', () -> x.outputByte(3));
        CHECKS.due("62: behind the last one", -1, () -> x.outputByte(15));
        CHECKS.due("62: before the first one", -1, () -> x.outputByte(-1));
        CHECKS.due("62: the greatest int", -1, () -> x.outputByte(Integer.MAX_VALUE));
        CHECKS.due("61: no members", 2, () -> x.printPool(1));
        CHECKS.due("61: in place of what it had", "=0", () -> Checks.output(x));
        CHECKS.throwsBounds("61: no such pool", () -> x.printPool(2));
        CHECKS.throwsBounds("61: -1", () -> x.printPool(-1));
        CHECKS.due("61: stays when it throws", "=0", () -> Checks.output(x));
        x.run(2);
        x.printPool(0);
        CHECKS.due("61: all are ready", "0 1* 2 3* =40", () -> Checks.output(x));
        x.undo();
        CHECKS.due("61: undoing leaves it", "0 1* 2 3* =40", () -> Checks.output(x));
        x.saveState();
        x.printPool(1);
        x.restoreState();
        CHECKS.due("61: restoring leaves it", "=0", () -> Checks.output(x));

        PoolScaler y = Checks.pools("pool 0 20 100;warm 9;pool 20 20 100;");
        for (int i = 0; i < 100; i++) {
            y.setBounds(0, 0, 20);
            y.grow(0, 5);
            y.dropCold(0);
        }
        for (int i = 0; i < 4; i++) {
            y.grow(0, 5);
        }
        CHECKS.due("61: long numbers", 20 * 5 + 2, () -> y.printPool(0));
        CHECKS.due("61: the last one", true, () -> Checks.output(y).endsWith(" 538- 539- =0"));
        CHECKS.due("61: a great power", "19 =2000", () -> {
            y.printPool(1);
            return Checks.output(y).substring(Checks.output(y).indexOf("19"));
        });
    }

    private static void undo() {
        PoolScaler x = Checks.pools("pool 1 9 10;load 50;");
        CHECKS.due("63: nothing to undo", -1, x::undo);
        x.run(1);
        x.push(0, 7);
        x.run(3);
        CHECKS.due("63: two are left", 2, x::undo);
        CHECKS.due("63: the time", 1, () -> x.count(1));
        CHECKS.due("63: pushed again", 57, () -> x.planned(0, 0));
        CHECKS.due("63: one is left", 1, x::undo);
        CHECKS.due("63: not pushed", 50, () -> x.planned(0, 0));
        x.push(0, 9);
        CHECKS.due("63: a new change", 1, x::undo);
        CHECKS.due("63: the first one", 0, x::undo);
        CHECKS.due("63: no event", 0, () -> x.count(4));
        CHECKS.due("63: numbers are free again", 1, () -> x.count(3));
        CHECKS.due("63: no forecast", -1, () -> x.forecast(0));
        CHECKS.due("63: no cool-down", 0, () -> x.coolLeft(0, true));
        CHECKS.due("63: nothing served", 0L, () -> x.served(0));
        CHECKS.throwsMissing("63: no demand", () -> x.demand(0, 0));
        CHECKS.due("63: nothing is left", -1, x::undo);
    }

    private static void undoOfEachChange() {
        PoolScaler x = Checks.pools("pool 1 9 10;load 50;pool 0 9 10;");
        x.grow(0, 2);
        x.protect(1, true);
        x.undo();
        CHECKS.due("63: protect", 0, () -> x.member(1, 4));
        x.drop(1);
        x.undo();
        CHECKS.due("63: drop", 1, () -> x.memberAt(0, 1));
        x.pause(0, true);
        x.undo();
        CHECKS.due("63: pause", 0, () -> x.pool(0, 19));
        x.setPolicy(0, 2, 9);
        x.undo();
        CHECKS.due("63: setPolicy", 0, () -> x.pool(0, 10) + x.pool(0, 11));
        x.setTarget(0, 20);
        x.undo();
        CHECKS.due("63: setTarget", 70, () -> x.pool(0, 6));
        x.setCool(0, 1, 1);
        x.undo();
        CHECKS.due("63: setCool", 8, () -> x.pool(0, 15) + x.pool(0, 16));
        x.setBounds(0, 2, 5);
        x.undo();
        CHECKS.due("63: setBounds", 10, () -> x.pool(0, 0) + x.pool(0, 1));
        x.transfer(1, 1);
        x.undo();
        CHECKS.due("63: transfer", 0, () -> x.member(1, 0));
        CHECKS.due("63: its events", 2, () -> x.count(4));
        x.setLoad(0, 0, 9);
        x.undo();
        CHECKS.due("63: setLoad", 50, () -> x.planned(0, 0));
        x.dropCold(0);
        x.undo();
        CHECKS.due("63: dropCold", 3, () -> x.pool(0, 3));
        x.hurry(0);
        CHECKS.due("63: hurry", 1, x::undo);
        CHECKS.due("63: its tick", 0, () -> x.count(1));
        x.undo();
        CHECKS.due("63: grow", 1, () -> x.pool(0, 3));
    }

    // Much of everything: events beyond 60, demands beyond 24, errors, misses, members of all kinds.
    private static PoolScaler busy() {
        PoolScaler x = Checks.pools("pool 1 9 10;load 90 10 0 50 70 5;cool 0 0;window 2;step 3 4;drop cold;warm 1;cost 3 4;protect 0;"
            + "pool 2 8 7;load 3 60 60;cool 1 2;policy trend;drop oldest;pool 0 20 3;policy season 3;load 1 2 11;");
        x.run(70);
        x.pause(2, true);
        x.push(1, 40);
        return x;
    }

    private static void undoBringsAllBack() {
        PoolScaler x = busy();
        String before = Checks.picture(x);
        x.saveState();
        x.run(101);
        x.undo();
        CHECKS.due("63: run", before, () -> Checks.picture(x));
        x.hurry(0);
        x.pause(2, false);
        x.setPolicy(0, 1, 0);
        x.transfer(x.nextDropped(1), 2);
        x.run(99);
        x.setLoad(0, 2, 444);
        for (int i = 0; i < 6; i++) {
            x.undo();
        }
        CHECKS.due("63: one after the other", before, () -> Checks.picture(x));
        x.setPolicy(1, 2, 5);
        x.run(97);
        CHECKS.due("65: the time", 70, x::restoreState);
        CHECKS.due("65: all is as it was", before, () -> Checks.picture(x));
        x.run(13);
        PoolScaler y = busy();
        y.run(13);
        CHECKS.due("65: goes on alike", Checks.picture(y), () -> Checks.picture(x));
        String text = "pool 2 9 10;pool 1 5 20;load 9 8 7;pool 1 2 3;";
        PoolScaler fresh = Checks.pools(text);
        Checks.load(x, text);
        CHECKS.due("4: nothing is left behind a load", Checks.picture(fresh), () -> Checks.picture(x));
        fresh.run(20);
        x.run(20);
        CHECKS.due("4: goes on alike", Checks.picture(fresh), () -> Checks.picture(x));
    }

    private static void atMostTen() {
        PoolScaler x = Checks.pools("pool 1 9 10;load 50;");
        for (int i = 1; i <= 13; i++) {
            x.push(0, 1);
            int due = Math.min(i, 10);
            CHECKS.due("7: changes that can be undone", due, () -> x.count(5));
        }
        for (int left = 9; left >= 0; left--) {
            CHECKS.due("63: of ten", left, x::undo);
        }
        CHECKS.due("63: the first three stay", 53, () -> x.planned(0, 0));
        CHECKS.due("63: no more", -1, x::undo);
    }

    private static void saving() {
        PoolScaler x = Checks.pools("pool 1 9 10;load 50;");
        CHECKS.throwsState("65: nothing saved", x::restoreState);
        x.run(4);
        x.push(0, 3);
        CHECKS.due("64: the time", 4, x::saveState);
        CHECKS.due("64: no change", 2, () -> x.count(5));
        int size = x.pool(0, 3);
        long cost = x.cost(0);
        x.run(30);
        x.setTarget(0, 10);
        CHECKS.due("65: the time", 4, x::restoreState);
        CHECKS.due("65: nothing can be undone", -1, x::undo);
        CHECKS.due("65: the size", size, () -> x.pool(0, 3));
        CHECKS.due("65: the cost", cost, () -> x.cost(0));
        CHECKS.due("65: TARGET", 70, () -> x.pool(0, 6));
        CHECKS.due("65: pushed", 53, () -> x.planned(0, 0));
        x.run(2);
        CHECKS.due("65: it stays saved", 4, x::restoreState);
        x.run(1);
        CHECKS.due("64: in place of the earlier one", 5, x::saveState);
        x.run(1);
        x.undo();
        x.undo();
        CHECKS.due("63: undoing goes behind what is saved", 4, () -> x.count(1));
        CHECKS.due("65: the later one", 5, x::restoreState);
        CHECKS.due("65: no error before", 0, x::errorCode);
        Checks.load(x, "pool");
        CHECKS.due("65: a load that is refused keeps it", 5, x::restoreState);
        Checks.append(x, "pool 1 2 3;");
        x.restoreState();
        CHECKS.due("65: the reported error is not saved", PoolScaler.SYNTAX, x::errorCode);
        CHECKS.due("65: its offset", 4, x::errorOffset);
        CHECKS.due("65: the input is not saved", 1, x::loadPools);
        CHECKS.throwsState("65: a load forgets it", x::restoreState);
    }
}
