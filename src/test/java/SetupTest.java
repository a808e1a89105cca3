/** Promises 1 to 6 and the setup text. */
final class SetupTest {
    private static final Checks CHECKS = new Checks();

    public static void main(String[] args) {
        newObject();
        input();
        loading();
        whatLoadingReplaces();
        rightTexts();
        numbersOutOfRange();
        wrongForm();
        toldTwice();
        poolsMissingOrTooMany();
        errorsAtOneToken();
        CHECKS.end();
    }

    private static void newObject() {
        PoolScaler x = new PoolScaler();
        int[] due = {1, 4, 10, 1, 1, 0, 70, 2, 4, 2, 0, 0, 0, 1, 1, 3, 5, 1, 1, 0, -1};
        for (int what = 0; what < due.length; what++) {
            int asked = what;
            CHECKS.due("1: pool(0, " + what + ")", due[what], () -> x.pool(0, asked));
        }
        CHECKS.due("1: time", 0, () -> x.count(1));
        CHECKS.due("1: nothing is demanded", 0, () -> x.planned(0, 0));
        CHECKS.due("1: the input is empty", false, () -> x.truncateInput(1));
        CHECKS.due("5: no error before a load", PoolScaler.NO_ERROR, x::errorCode);
        CHECKS.due("6: no offset before a load", -1, x::errorOffset);
    }

    private static void input() {
        PoolScaler x = new PoolScaler();
        for (int length = 20; length <= 700; length += 20) {
            CHECKS.due("2: appendInput", length, () -> x.appendInput(0x20202020, 0x20202020, 0x20202020, 0x20202020, 0x20202020));
        }
        CHECKS.due("2: beyond 700", -1, () -> x.appendInput(0, 0, 0, 0, 0));
        CHECKS.due("3: truncate to more", false, () -> x.truncateInput(701));
        CHECKS.due("3: truncate to less than 0", false, () -> x.truncateInput(-1));
        CHECKS.due("3: truncate to the least int", false, () -> x.truncateInput(Integer.MIN_VALUE));
        CHECKS.due("3: truncate to the same", true, () -> x.truncateInput(700));
        CHECKS.due("3: truncate nothing to nothing", true, () -> new PoolScaler().truncateInput(0));
        CHECKS.due("3: truncate to 681", true, () -> x.truncateInput(681));
        CHECKS.due("2: 701 bytes are too many", -1, () -> x.appendInput(0, 0, 0, 0, 0));
        CHECKS.due("3: truncate to 680", true, () -> x.truncateInput(680));
        CHECKS.due("3: longer than it is now", false, () -> x.truncateInput(681));
        CHECKS.due("2: 700 bytes again", 700, () -> x.appendInput(0x20202020, 0x20202020, 0x20202020, 0x20202020, 0x20202020));
        CHECKS.due("4: blanks alone", -1, x::loadPools);
        CHECKS.due("6: a refused append left nothing behind", 700, x::errorOffset);

        // "pool", " 2 3", " 50;", "step", " 4 5" and then ";": the most significant byte comes first
        PoolScaler y = new PoolScaler();
        CHECKS.due("2: bytes in order", 20, () -> y.appendInput(0x706F6F6C, 0x20322033, 0x2035303B, 0x73746570, 0x20342035));
        CHECKS.due("2: the rest", 40, () -> y.appendInput(0x3B202020, 0x20202020, 0x20202020, 0x20202020, 0x20202020));
        CHECKS.due("4: loads them", 1, y::loadPools);
        CHECKS.due("2: CAP", 50, () -> y.pool(0, 2));
        CHECKS.due("2: DOWN", 5, () -> y.pool(0, 14));

        // A byte over 127 belongs to no token.
        PoolScaler z = new PoolScaler();
        z.appendInput(0x20FF2020, 0, 0, 0, 0);
        z.loadPools();
        CHECKS.due("2: a byte over 127", 1, z::errorOffset);
    }

    private static void loading() {
        PoolScaler x = new PoolScaler();
        CHECKS.due("4: three pools", 3, () -> Checks.load(x, "pool 1 2 3;pool 0 5 7;\npool 2 2 9;"));
        CHECKS.due("4: empties the input", false, () -> x.truncateInput(1));
        CHECKS.due("5: no error", 0, x::errorCode);
        CHECKS.due("6: no offset", -1, x::errorOffset);
        CHECKS.due("4: refused", -1, () -> Checks.load(x, "pool 1 2 3; step 6 1;"));
        CHECKS.due("4: empties the input with an error too", false, () -> x.truncateInput(1));
        CHECKS.due("5: the error", PoolScaler.OUT_OF_RANGE, x::errorCode);
        CHECKS.due("6: its offset", 17, x::errorOffset);
        CHECKS.due("4: the pools stay", 3, () -> x.count(0));
        CHECKS.due("4: fine again", 1, () -> Checks.load(x, "pool 1 2 3;"));
        CHECKS.due("5: no error again", 0, x::errorCode);
        CHECKS.due("6: no offset again", -1, x::errorOffset);
    }

    private static void whatLoadingReplaces() {
        PoolScaler x = Checks.pools("pool 1 5 10; load 30;");
        x.run(4);
        x.push(0, 5);
        x.pause(0, true);
        x.saveState();
        int time = x.count(1);
        int events = x.count(4);
        CHECKS.due("4: an error", -1, () -> Checks.load(x, "pool 1 5 10; load 1000;"));
        CHECKS.due("4: an error keeps the time", time, () -> x.count(1));
        CHECKS.due("4: an error keeps the events", events, () -> x.count(4));
        CHECKS.due("4: an error keeps what can be undone", 3, () -> x.count(5));
        CHECKS.due("4: an error keeps the saved state", 4, x::restoreState);
        x.push(0, 5);
        CHECKS.due("4: loads", 2, () -> Checks.load(x, "pool 2 5 10; pool 3 5 10;"));
        CHECKS.due("4: time 0", 0, () -> x.count(1));
        CHECKS.due("4: members numbered anew", 5, () -> x.count(3));
        CHECKS.due("4: the second pool gets the later ones", 2, () -> x.memberAt(1, 0));
        CHECKS.due("4: ready from 0 on", 0, () -> x.member(4, 2));
        CHECKS.due("4: came at 0", 0, () -> x.member(4, 1));
        CHECKS.due("4: no events", 0, () -> x.count(4));
        CHECKS.due("4: nothing to undo", -1, x::undo);
        CHECKS.throwsState("4: no state is saved", x::restoreState);
        CHECKS.throwsMissing("4: nothing was demanded", () -> x.demand(0, 0));
        CHECKS.due("4: nothing is pushed or told", 0, () -> x.planned(0, 0));
        CHECKS.due("4: not paused", 0, () -> x.pool(0, 19));
        CHECKS.due("4: no decision", -1, () -> x.pool(0, 20));
        CHECKS.due("4: no forecast", -1, () -> x.forecast(0));
        CHECKS.due("4: no cool-down", 0, () -> x.coolLeft(0, true));
        CHECKS.due("4: no cost", 0L, () -> x.cost(0));
        CHECKS.due("4: no decisions", 0, () -> x.decisions(0, 0));
        CHECKS.due("4: no peak", 0, () -> x.peak(0));
    }

    private static void rightTexts() {
        PoolScaler x = Checks.pools("pool 2 20 100;step 2 3;cool 4 30;target 100;warm 9;window 8;lead 7;policy season 24;"
            + "drop cold;cost 98 99;load 5 999;protect 1;pool 0 1 1;");
        int[] due = {2, 20, 100, 2, 2, 1, 100, 9, 8, 7, 2, 24, 2, 2, 3, 4, 30, 98, 99, 0, -1};
        for (int what = 0; what < due.length; what++) {
            int asked = what;
            CHECKS.due("4: told pool(0, " + what + ")", due[what], () -> x.pool(0, asked));
        }
        CHECKS.due("4: the second number of the load", 999, () -> x.planned(0, 1));
        CHECKS.due("4: protected by its index", 1, () -> x.member(1, 4));
        CHECKS.due("4: the other one is not", 0, () -> x.member(0, 4));
        CHECKS.due("4: the second pool has its own settings", 70, () -> x.pool(1, 6));
        CHECKS.due("4: no blanks between tokens", 1, () -> Checks.load(x, "pool1 2 3;policyseason2;".replace("ys", "y s")));
        CHECKS.due("4: a season without a blank", 2, () -> x.pool(0, 11));
        CHECKS.due("4: blanks everywhere", 1, () -> Checks.load(x, "\n pool\n\n1 2  3 \n; "));
        CHECKS.due("4: numbers with zeros", 1, () -> Checks.load(x, "pool 001 020 003;"));
        CHECKS.due("4: MAX with a zero", 20, () -> x.pool(0, 1));
        CHECKS.due("4: 24 numbers", 1, () -> Checks.load(x, "pool 1 2 3;load" + " 7".repeat(23) + " 8;"));
        CHECKS.due("4: the 24th number", 8, () -> x.planned(0, 23));
        CHECKS.due("4: the first one again", 7, () -> x.planned(0, 24));
        CHECKS.due("4: least numbers", 1, () -> Checks.load(x, "pool 0 1 1;step 1 1;cool 0 0;target 10;warm 0;window 1;lead 1;"
            + "policy season 2;drop oldest;cost 0 0;load 0;"));
        CHECKS.due("4: greatest numbers", 1, () -> Checks.load(x, "pool 20 20 100;step 5 5;cool 30 30;target 100;warm 9;window 8;"
            + "lead 8;policy season 24;drop newest;cost 99 99;load 999;protect 19;"));
        CHECKS.due("4: each pool has its own statements", 2, () -> Checks.load(x, "pool 1 2 3;warm 1;pool 1 2 3;warm 3;"));
        CHECKS.due("4: protect may stand more than once", 1, () -> Checks.load(x, "pool 3 3 3;protect 2;protect 0;"));
        CHECKS.due("4: two are protected", 2, () -> x.pool(0, 5));
        CHECKS.due("4: protect tells of the latest pool", 2, () -> Checks.load(x, "pool 1 3 3;pool 2 3 3;protect 0;"));
        CHECKS.due("4: its first member", 1, () -> x.member(1, 4));
        CHECKS.due("4: 700 bytes", 1, () -> Checks.load(x, "pool 1 2 3;" + " ".repeat(688) + "\n"));
    }

    /** Checks that a text is refused with this code at the sign ^, which is left out of it. */
    private static void refused(int code, String marked) {
        PoolScaler x = new PoolScaler();
        int offset = marked.indexOf('^');
        String text = marked.substring(0, offset) + marked.substring(offset + 1);
        CHECKS.due("4: " + marked, -1, () -> Checks.load(x, text));
        CHECKS.due("5: " + marked, code, x::errorCode);
        CHECKS.due("6: " + marked, offset, x::errorOffset);
        CHECKS.due("4: keeps the pool with " + marked, 10, () -> x.pool(0, 2));
    }

    private static void numbersOutOfRange() {
        String[] texts = {"pool ^21 21 1;", "pool 0 ^0 1;", "pool 3 ^2 1;", "pool 1 ^21 1;", "pool 1 1 ^0;", "pool 1 1 ^101;"};
        for (String text : texts) {
            refused(PoolScaler.OUT_OF_RANGE, text);
        }
        String[] statements = {"step ^0 1;", "step ^6 1;", "step 1 ^0;", "step 1 ^6;", "cool ^31 1;", "cool 1 ^31;", "target ^9;",
            "target ^101;", "warm ^10;", "window ^0;", "window ^9;", "lead ^0;", "lead ^9;", "policy season ^1;", "policy season ^25;",
            "cost ^100 1;", "cost 1 ^100;", "protect ^2;", "protect ^999;"};
        for (String statement : statements) {
            refused(PoolScaler.OUT_OF_RANGE, "pool 2 4 10;" + statement);
        }
        refused(PoolScaler.OUT_OF_RANGE, "pool 0 4 10;protect ^0;");
    }

    private static void wrongForm() {
        String[] texts = {"^;", "^5", "^pools 1 2 3;", "^zpool 1 2 3;", "^poolz 1 2 3;", "^apool 1 2 3;", "^Pool 1 2 3;", "^step 1 1;", "^load 1;", "^protect 0;", "^watch", "^#",
            "pool ^x 2 3;", "pool ^; ", "pool 1 2 ^;", "pool 1 2 3 ^4;", "pool 1 2 3 ^pool", "pool 1 2 3^", "pool^", "pool 1^", "pool 1 2 \n^",
            "pool ^0001 2 3;", "pool 1 ^-2 3;", "pool 1 2 3;^;", "pool 1 2 3;^newest;", "pool 1 2 3; ^Step 1 1;", "pool 1 2 3;^7",
            "pool 1 2 3; step 1 ^;", "pool 1 2 3; step 1 1 ^1;", "pool 1 2 3; step ^up 1;", "pool 1 2 3; target 10^",
            "pool 1 2 3; policy ^;", "pool 1 2 3; policy ^newest;", "pool 1 2 3; policy ^5;", "pool 1 2 3; policy watch ^2;",
            "pool 1 2 3; policy trend ^2;", "pool 1 2 3; policy season ^;", "pool 1 2 3; policy season 5 ^5;", "pool 1 2 3; policy^",
            "pool 1 2 3; drop ^;", "pool 1 2 3; drop ^trend;", "pool 1 2 3; drop cold ^1;", "pool 1 2 3; drop^",
            "pool 1 2 3; load ^;", "pool 1 2 3; load 1 ^load;", "pool 1 2 3; load^", "pool 1 2 3; load 1^", "pool 1 2 3; load ^1000;",
            "pool 1 2 3; load 1 ^1000;", "pool 1 2 3; protect ^;", "pool 1 2 3; protect 0 ^0;", "pool 1 2 3; protect 0^",
            "pool 1 2 3;^\t", "pool 1 2 3;^\r", "pool 1 2 3; ^poolx 1 2 3;", "pool 1 2^{ 3;", "^\u0000"};
        for (String text : texts) {
            refused(PoolScaler.SYNTAX, text);
        }
        refused(PoolScaler.SYNTAX, "pool 1 2 3;load" + " 7".repeat(24) + " ^8;");
        refused(PoolScaler.SYNTAX, "pool 1 2 3;load" + " 7".repeat(24) + "^");
    }

    private static void toldTwice() {
        String[] statements = {"step 1 1;", "cool 1 1;", "target 50;", "warm 1;", "window 1;", "lead 1;", "policy watch;", "drop cold;",
            "cost 1 1;", "load 5;"};
        for (String statement : statements) {
            refused(PoolScaler.TWICE, "pool 1 2 3;" + statement + " ^" + statement);
            refused(PoolScaler.TWICE, "pool 1 2 3;protect 0;" + statement + "pool 1 2 3;protect 0;" + statement + " ^" + statement);
        }
        refused(PoolScaler.TWICE, "pool 2 2 3;protect 0;protect 1;protect ^0;");
        refused(PoolScaler.TWICE, "pool 1 2 3;policy watch;^policy trend;");
    }

    private static void poolsMissingOrTooMany() {
        refused(PoolScaler.NO_POOL, "^");
        refused(PoolScaler.NO_POOL, " \n \n^");
        refused(PoolScaler.TOO_MANY, "pool 1 2 3;".repeat(4) + " ^pool 1 2 3;");
        refused(PoolScaler.TOO_MANY, "pool 1 2 3;".repeat(4) + "warm 2; ^pool");
        CHECKS.due("4: four pools", 4, () -> Checks.load(new PoolScaler(), "pool 1 2 3;".repeat(4)));
    }

    private static void errorsAtOneToken() {
        // The word comes before what is wrong behind it.
        refused(PoolScaler.TWICE, "pool 1 2 3;warm 1;^warm 99;");
        refused(PoolScaler.TWICE, "pool 1 2 3;warm 1;^warm");
        // A number of too many digits is no number, whatever its range.
        refused(PoolScaler.SYNTAX, "pool 1 2 3;protect ^9999;");
        refused(PoolScaler.SYNTAX, "pool 1 2 3;load" + " 7".repeat(24) + " ^9999;");
        // The first error counts.
        refused(PoolScaler.OUT_OF_RANGE, "pool 1 2 3;warm ^99;warm 1;#");
    }
}
