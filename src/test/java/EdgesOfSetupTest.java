/** Each sentence on the setup text and in promises 1 to 6 that names an edge. */
final class EdgesOfSetupTest {
    private static final Checks CHECKS = new Checks();

    public static void main(String[] args) {
        beforeAnyLoad();
        append();
        truncate();
        load();
        numbersInRange();
        protectInRange();
        loadsInNumber();
        digits();
        bytesOfTokens();
        blanks();
        endOfText();
        statementsAtTheBeginning();
        wordsOfSettings();
        twice();
        poolsInNumber();
        smallestCode();
        firstErrorMet();
        anErrorChangesNothing();
        aLoadReplacesEverything();
        CHECKS.end();
    }

    private static void beforeAnyLoad() {
        PoolScaler made = new PoolScaler();
        CHECKS.due("1: as if \"pool 1 4 10;\" was loaded", Checks.picture(Checks.pools("pool 1 4 10;")), () -> Checks.picture(made));
        CHECKS.due("1: nothing can be undone", -1, made::undo);
        CHECKS.throwsState("1: no state is saved", made::restoreState);
        CHECKS.due("1: with an empty input buffer", false, () -> made.truncateInput(1));
        CHECKS.due("1: an empty input buffer takes 20 bytes", 20, () -> made.appendInput(0, 0, 0, 0, 0));
        CHECKS.due("5: NO_ERROR if there was no call", PoolScaler.NO_ERROR, made::errorCode);
        CHECKS.due("6: -1 if errorCode() is NO_ERROR: no call", -1, made::errorOffset);
        CHECKS.due("62: nothing is printed", -1, () -> made.outputByte(0));
    }

    private static void append() {
        PoolScaler x = filled(34);
        CHECKS.due("2: up to 700", 700, () -> x.appendInput(0, 0, 0, 0, 0));
        CHECKS.due("2: -1 if it would exceed 700", -1, () -> x.appendInput(0, 0, 0, 0, 0));
        CHECKS.due("2: with no change: as long as it was", true, () -> x.truncateInput(700));
        x.truncateInput(681);
        CHECKS.due("2: -1 if it would be 701", -1, () -> x.appendInput(0, 0, 0, 0, 0));
        CHECKS.due("2: with no change: no byte more", false, () -> x.truncateInput(682));
        x.truncateInput(680);
        CHECKS.due("2: 700 once more", 700, () -> x.appendInput(0, 0, 0, 0, 0));

        PoolScaler refused = new PoolScaler();
        Checks.append(refused, "pool 2 3 4;" + " ".repeat(689));
        refused.appendInput(-1, -1, -1, -1, -1);
        CHECKS.due("2: with no change: the text is as it was", 1, refused::loadPools);
        PoolScaler order = new PoolScaler();
        order.appendInput(0x706f6f6c, 0x20322033, 0x20343b20, 0x20202020, 0x20202020);
        CHECKS.due("2: the most significant byte first", 1, order::loadPools);
        CHECKS.due("2: the bytes of each parameter", 4, () -> order.pool(0, 2));
    }

    private static PoolScaler filled(int times) {
        PoolScaler x = new PoolScaler();
        for (int i = 0; i < times; i++) {
            x.appendInput(0, 0, 0, 0, 0);
        }
        return x;
    }

    private static void truncate() {
        PoolScaler x = filled(2);
        CHECKS.due("3: false if length is negative", false, () -> x.truncateInput(-1));
        CHECKS.due("3: false if length is the least int", false, () -> x.truncateInput(Integer.MIN_VALUE));
        CHECKS.due("3: false if greater than the current length", false, () -> x.truncateInput(41));
        CHECKS.due("3: false if length is the greatest int", false, () -> x.truncateInput(Integer.MAX_VALUE));
        CHECKS.due("3: false leaves it", 60, () -> x.appendInput(0, 0, 0, 0, 0));
        CHECKS.due("3: true for the current length", true, () -> x.truncateInput(60));
        CHECKS.due("3: true for one less", true, () -> x.truncateInput(59));
        CHECKS.due("3: shorter by one", 79, () -> x.appendInput(0, 0, 0, 0, 0));
        CHECKS.due("3: true for 0", true, () -> x.truncateInput(0));
        CHECKS.due("3: empty then", 20, () -> x.appendInput(0, 0, 0, 0, 0));
        PoolScaler empty = new PoolScaler();
        CHECKS.due("3: true for 0 when it is empty", true, () -> empty.truncateInput(0));
        CHECKS.due("3: false for 1 when it is empty", false, () -> empty.truncateInput(1));
        PoolScaler cut = new PoolScaler();
        Checks.append(cut, "pool 1 2 34;");
        cut.truncateInput(10);
        Checks.append(cut, ";");
        CHECKS.due("3: what was cut off is gone", 1, cut::loadPools);
        CHECKS.due("3: what was cut off is gone: CAP", 3, () -> cut.pool(0, 2));
    }

    private static void load() {
        PoolScaler x = new PoolScaler();
        CHECKS.due("4: the number of pools: 4", 4, () -> Checks.load(x, "pool 1 1 1;".repeat(4)));
        CHECKS.due("4: the number of pools: 1", 1, () -> Checks.load(x, "pool 1 1 1;"));
        CHECKS.due("4: empties the buffer if it succeeds", false, () -> x.truncateInput(1));
        CHECKS.due("5: NO_ERROR if that call succeeded", PoolScaler.NO_ERROR, x::errorCode);
        CHECKS.due("6: -1 if errorCode() is NO_ERROR: it succeeded", -1, x::errorOffset);
        CHECKS.due("4: -1 if there is an error", -1, () -> Checks.load(x, "pool 1 1 0;"));
        CHECKS.due("4: empties the buffer if it does not", false, () -> x.truncateInput(1));
        CHECKS.due("5: of the latest call: an error", PoolScaler.OUT_OF_RANGE, x::errorCode);
        CHECKS.due("6: of the latest call: an error", 9, x::errorOffset);
        CHECKS.due("4: the buffer is empty now", -1, x::loadPools);
        CHECKS.due("5: of the latest call: another error", PoolScaler.NO_POOL, x::errorCode);
        CHECKS.due("6: of the latest call: another error", 0, x::errorOffset);
        CHECKS.due("4: succeeds again", 1, () -> Checks.load(x, "pool 1 1 1;"));
        CHECKS.due("5: of the latest call: none", PoolScaler.NO_ERROR, x::errorCode);
        CHECKS.due("6: of the latest call: none", -1, x::errorOffset);
        CHECKS.due("4: at most 700 bytes", 1, () -> Checks.load(x, "pool 1 1 1;" + " ".repeat(688) + "\n"));
        CHECKS.due("4: 700 bytes to the very last one", 1, () -> Checks.load(x, " ".repeat(689) + "pool 1 1 1;"));
    }

    /** The number at the sign # can be from the least to the greatest one; the method pool answers it under what. */
    private static void range(String text, int least, int greatest, int what) {
        String marked = text.startsWith("pool") ? text : "pool 0 20 1;" + text;
        int offset = marked.indexOf('#');
        for (int number : new int[] {0, least - 1, least, least + 1, greatest - 1, greatest, greatest + 1, 999}) {
            if (number < 0 || number > 999) {
                continue;
            }
            String with = marked.replace("#", String.valueOf(number));
            if (number >= least && number <= greatest) {
                accepted(with, number, what);
            } else {
                refused(PoolScaler.OUT_OF_RANGE, offset, with);
            }
        }
    }

    private static void accepted(String text, int number, int what) {
        PoolScaler x = new PoolScaler();
        CHECKS.due("in its range: " + text, 1, () -> Checks.load(x, text));
        CHECKS.due("in its range, told: " + text, number, () -> what < 0 ? x.planned(0, -1 - what) : x.pool(0, what));
    }

    private static void refused(int code, int offset, String text) {
        PoolScaler x = new PoolScaler();
        CHECKS.due("refused: " + text, -1, () -> Checks.load(x, text));
        CHECKS.due("its code: " + text, code, x::errorCode);
        CHECKS.due("its offset: " + text, offset, x::errorOffset);
        CHECKS.due("an error changes nothing: " + text, 10, () -> x.pool(0, 2));
    }

    /** Refused at the sign ^, which is no part of the text. */
    private static void refused(int code, String marked) {
        int offset = marked.indexOf('^');
        refused(code, offset, marked.substring(0, offset) + marked.substring(offset + 1));
    }

    private static void numbersInRange() {
        range("pool # 20 1;", 0, 20, 0);
        range("pool 0 # 1;", 1, 20, 1);
        range("pool 1 # 1;", 1, 20, 1);
        range("pool 7 # 1;", 7, 20, 1);
        range("pool 20 # 1;", 20, 20, 1);
        range("pool 0 20 #;", 1, 100, 2);
        range("step # 5;", 1, 5, 13);
        range("step 5 #;", 1, 5, 14);
        range("cool # 30;", 0, 30, 15);
        range("cool 30 #;", 0, 30, 16);
        range("target #;", 10, 100, 6);
        range("warm #;", 0, 9, 7);
        range("window #;", 1, 8, 8);
        range("lead #;", 1, 8, 9);
        range("policy season #;", 2, 24, 11);
        range("cost # 99;", 0, 99, 17);
        range("cost 99 #;", 0, 99, 18);
        range("load #;", 0, 999, -1);
        range("load 1 #;", 0, 999, -2);
        range("load" + " 1".repeat(23) + " #;", 0, 999, -24);
    }

    private static void protectInRange() {
        for (int min : new int[] {0, 1, 2, 20}) {
            for (int index : new int[] {0, 1, 2, 19, 20, 999}) {
                String text = "pool " + min + " 20 1;protect " + index + ";";
                if (index < min) {
                    PoolScaler x = new PoolScaler();
                    CHECKS.due("0 to MIN - 1: " + text, 1, () -> Checks.load(x, text));
                    CHECKS.due("the member with this index: " + text, 1, () -> x.member(index, 4));
                    CHECKS.due("that one alone: " + text, 1, () -> x.pool(0, 5));
                } else {
                    refused(PoolScaler.OUT_OF_RANGE, text.length() - 1 - String.valueOf(index).length(), text);
                }
            }
        }
        PoolScaler second = Checks.pools("pool 3 9 1;pool 2 9 1;protect 1;");
        CHECKS.due("among those of the pool that was told last", 1, () -> second.member(4, 4));
        CHECKS.due("none of the pool before it", 0, () -> second.pool(0, 5));
    }

    private static void loadsInNumber() {
        refused(PoolScaler.SYNTAX, "pool 1 4 1;load^;");
        CHECKS.due("1 to 24 numbers: 1", 1, () -> Checks.load(new PoolScaler(), "pool 1 4 1;load 5;"));
        PoolScaler most = Checks.pools("pool 1 4 1;load" + " 5".repeat(23) + " 6;");
        CHECKS.due("1 to 24 numbers: the 24th", 6, () -> most.planned(0, 23));
        CHECKS.due("1 to 24 numbers: behind the 24th", 5, () -> most.planned(0, 24));
        refused(PoolScaler.SYNTAX, "pool 1 4 1;load" + " 5".repeat(24) + " ^5;");
        refused(PoolScaler.SYNTAX, "pool 1 4 1;load" + " 5".repeat(24) + " ^5 6 7");
    }

    private static void digits() {
        PoolScaler x = Checks.pools("pool 1 001 010;load 0 00 000 09 009 100;");
        CHECKS.due("numbers of 1 to 3 digits: MAX", 1, () -> x.pool(0, 1));
        CHECKS.due("numbers of 1 to 3 digits: CAP", 10, () -> x.pool(0, 2));
        CHECKS.due("numbers of 1 to 3 digits: 009", 9, () -> x.planned(0, 4));
        refused(PoolScaler.SYNTAX, "pool ^0001 4 10;");
        refused(PoolScaler.SYNTAX, "pool 1 4 ^0010;");
        refused(PoolScaler.SYNTAX, "pool 1 4 10;load ^1000;");
        refused(PoolScaler.SYNTAX, "pool 1 4 10;load 999 ^99999999999999999999;");
        refused(PoolScaler.SYNTAX, "pool 1 4 10;protect ^0000;");
        refused(PoolScaler.SYNTAX, "pool 1 4 ^100000;");
    }

    private static void bytesOfTokens() {
        for (char sign = 0; sign < 256; sign++) {
            String text = "pool 1 4 10;" + sign;
            if (sign == ' ' || sign == '\n') {
                CHECKS.due("the byte " + (int) sign + " may stand between tokens", 1, () -> Checks.load(new PoolScaler(), text));
            } else {
                // Each other one is refused: a byte of no token, or a token that cannot stand there.
                refused(PoolScaler.SYNTAX, 12, text);
            }
        }
        for (char sign : new char[] {0, 9, 11, 13, 31, 33, '/', ':', '<', '@', 'A', 'Z', '[', '`', '{', 127, 128, 160, 255}) {
            refused(PoolScaler.SYNTAX, 4, "pool" + sign + "1 4 10;");
            refused(PoolScaler.SYNTAX, 6, "pool 1" + sign + "4 10;");
            refused(PoolScaler.SYNTAX, 0, "po" + sign + "ol 1 4 10;");
        }
        for (String word : new String[] {"a", "z", "az", "pools", "poolz", "poola", "apool", "zpool", "pol", "poo", "ppool", "oolp"}) {
            refused(PoolScaler.SYNTAX, 1, " " + word + " 1 4 10;");
        }
    }

    private static void blanks() {
        PoolScaler x = new PoolScaler();
        CHECKS.due("no blank between tokens", 1, () -> Checks.load(x, "pool1 4 10;warm9;policy season24;load7;protect0;"));
        CHECKS.due("no blank between a word and a number", 24, () -> x.pool(0, 11));
        CHECKS.due("blanks before, between and behind", 1, () -> Checks.load(x, "\n \n pool \n 1\n4\n10 \n; \n warm\n\n3 ; \n"));
        CHECKS.due("blanks between: told", 3, () -> x.pool(0, 7));
        refused(PoolScaler.SYNTAX, "^po ol 1 4 10;");
        refused(PoolScaler.OUT_OF_RANGE, "pool 1 4 10;warm ^20;");
        refused(PoolScaler.SYNTAX, "pool 1 4 10;warm 2 ^0;");
        refused(PoolScaler.OUT_OF_RANGE, "\n\n pool \n^21");
    }

    private static void endOfText() {
        String[] texts = {"pool^", "pool ^", "pool 1^", "pool 1 4^", "pool 1 4 10^", "pool 1 4 10 \n ^", "pool 1 4 10;step^",
            "pool 1 4 10;step 1^", "pool 1 4 10;step 1 1^", "pool 1 4 10;cool 1^", "pool 1 4 10;target^", "pool 1 4 10;warm 1^",
            "pool 1 4 10;window^", "pool 1 4 10;lead 1^", "pool 1 4 10;policy^", "pool 1 4 10;policy watch^",
            "pool 1 4 10;policy season^", "pool 1 4 10;policy season 2^", "pool 1 4 10;drop^", "pool 1 4 10;drop cold^",
            "pool 1 4 10;cost 1 1^", "pool 1 4 10;load^", "pool 1 4 10;load 1 2^", "pool 1 4 10;load" + " 1".repeat(24) + "^",
            "pool 1 4 10;protect^", "pool 1 4 10;protect 0^", "pool 1 4 10;protect 0 \n^"};
        for (String text : texts) {
            refused(PoolScaler.SYNTAX, text);
        }
        String full = "pool 1 4 10;load" + " 1".repeat(23);
        refused(PoolScaler.SYNTAX, 700, full + " ".repeat(700 - full.length()));
        refused(PoolScaler.NO_POOL, 0, "");
        refused(PoolScaler.NO_POOL, 3, " \n ");
        refused(PoolScaler.NO_POOL, 700, " ".repeat(700));
    }

    private static void statementsAtTheBeginning() {
        for (String word : new String[] {"step 1 1;", "cool 1 1;", "target 50;", "warm 1;", "window 1;", "lead 1;", "policy watch;",
            "drop cold;", "cost 1 1;", "load 1;", "protect 0;", "watch;", "newest;", "5;", ";"}) {
            refused(PoolScaler.SYNTAX, 0, word);
            refused(PoolScaler.SYNTAX, 2, " \n" + word + "pool 1 4 10;");
        }
        refused(PoolScaler.SYNTAX, "pool 1 4 10;^;");
        refused(PoolScaler.SYNTAX, "pool 1 4 10 ^10;");
        refused(PoolScaler.SYNTAX, "pool 1 4 ^;");
        refused(PoolScaler.SYNTAX, "pool 1 4 10;policy season ^;");
        refused(PoolScaler.SYNTAX, "pool 1 4 10;policy trend ^2;");
        refused(PoolScaler.SYNTAX, "pool 1 4 10;policy ^cold;");
        refused(PoolScaler.SYNTAX, "pool 1 4 10;drop ^watch;");
        refused(PoolScaler.SYNTAX, "pool 1 4 10;^watch;");
        refused(PoolScaler.SYNTAX, "pool 1 4 10;protect 0 ^0;");
        refused(PoolScaler.SYNTAX, "pool 1 4 10;protect ^pool 1 4 10;");
    }

    private static void wordsOfSettings() {
        String[] policies = {"watch", "trend", "season 2"};
        String[] rules = {"newest", "oldest", "cold"};
        for (int i = 0; i < 3; i++) {
            int number = i;
            String policy = "pool 1 4 10;policy " + policies[i] + ";";
            CHECKS.due("the policy: " + policy, number, () -> Checks.pools(policy).pool(0, 10));
            String rule = "pool 1 4 10;drop " + rules[i] + ";";
            CHECKS.due("the rule: " + rule, number, () -> Checks.pools(rule).pool(0, 12));
        }
    }

    private static void twice() {
        for (String statement : new String[] {"step 1 1;", "cool 1 1;", "target 50;", "warm 1;", "window 1;", "lead 1;",
            "policy season 2;", "drop cold;", "cost 1 1;", "load 1;"}) {
            refused(PoolScaler.TWICE, "pool 1 4 10;" + statement + "protect 0; ^" + statement);
            CHECKS.due("once for each pool: " + statement, 2,
                () -> Checks.load(new PoolScaler(), "pool 1 4 10;" + statement + "pool 1 4 10;" + statement));
        }
        refused(PoolScaler.TWICE, "pool 1 4 10;policy watch;^policy trend;");
        refused(PoolScaler.TWICE, "pool 1 4 10;drop newest;^drop newest;");
        CHECKS.due("protect apart", 1, () -> Checks.load(new PoolScaler(), "pool 2 4 10;protect 1;protect 0;"));
        refused(PoolScaler.TWICE, "pool 2 4 10;protect 1;protect 0;protect ^1;");
        refused(PoolScaler.TWICE, "pool 2 4 10;protect 1;protect ^001");
        CHECKS.due("a member of another pool", 2, () -> Checks.load(new PoolScaler(), "pool 1 4 10;protect 0;pool 1 4 10;protect 0;"));
    }

    private static void poolsInNumber() {
        String four = "pool 1 4 10;".repeat(4);
        CHECKS.due("4 pools", 4, () -> Checks.load(new PoolScaler(), four));
        refused(PoolScaler.TOO_MANY, four + "^pool 1 4 10;");
        refused(PoolScaler.TOO_MANY, four + "load 1;\n ^pool");
        refused(PoolScaler.TOO_MANY, four + "^pool 99 0 #");
    }

    private static void smallestCode() {
        // A token of the wrong kind or of too many digits is SYNTAX, whatever else is wrong with it.
        refused(PoolScaler.SYNTAX, "pool 1 4 10;warm 1;^warms");
        refused(PoolScaler.SYNTAX, "pool 2 4 10;protect 0;protect ^0000;");
        refused(PoolScaler.SYNTAX, "pool 1 4 10;".repeat(4) + "^pools");
        refused(PoolScaler.SYNTAX, "pool 1 4 10;target ^1000;");
        // The end of a text that breaks off is SYNTAX, also without a pool.
        refused(PoolScaler.SYNTAX, "pool 1 4 10^");
        refused(PoolScaler.SYNTAX, "pool^");
    }

    private static void firstErrorMet() {
        refused(PoolScaler.TWICE, "pool 1 4 10;warm 1;^warm 99;#");
        refused(PoolScaler.OUT_OF_RANGE, "pool 1 4 10;warm ^99 9 #");
        refused(PoolScaler.OUT_OF_RANGE, "pool ^21 0 0");
        refused(PoolScaler.OUT_OF_RANGE, "pool 5 ^4 0;");
        refused(PoolScaler.OUT_OF_RANGE, "pool 1 4 10;step ^9 9;pool 1 4 10;step 9 9;");
        refused(PoolScaler.SYNTAX, "pool 1 4 10;^x;warm 99;");
        refused(PoolScaler.OUT_OF_RANGE, "pool 1 4 10;load 1 2 3;cost ^100 1;load 1;");
    }

    private static void anErrorChangesNothing() {
        String[] wrong = {"", "x", "pool 1 4 10", "pool 2 5 7;warm 99;", "pool 2 5 7;warm 1;warm 1;", "pool 2 5 7;".repeat(5),
            "pool 2 5 7;protect 1;load 9 9 9;#"};
        for (String text : wrong) {
            PoolScaler x = Checks.pools("pool 1 5 10;load 30 5;protect 0;pool 2 5 10;");
            x.run(4);
            x.printPool(0);
            x.saveState();
            x.push(0, 5);
            String before = Checks.picture(x);
            CHECKS.due("An error: " + text, -1, () -> Checks.load(x, text));
            CHECKS.due("An error changes nothing: " + text, before, () -> Checks.picture(x));
            CHECKS.due("An error changes nothing: the output: " + text, "0* 3 4- =20", () -> Checks.output(x));
            CHECKS.due("An error changes nothing: what can be undone: " + text, 1, x::undo);
            CHECKS.due("An error changes nothing: the saved state: " + text, 4, x::restoreState);
        }
    }

    private static void aLoadReplacesEverything() {
        String text = "pool 2 5 7;load 3 4;pool 0 9 9;pool 1 1 1;load 5 6;";
        String told = "load 90 10;step 2 2;cool 0 0;target 50;warm 0;window 1;lead 1;policy season 2;drop oldest;cost 2 2;protect 0;";
        PoolScaler x = Checks.pools("pool 1 5 10;" + told + "pool 2 5 10;" + told + "pool 3 3 3;" + told + "pool 1 1 1;" + told);
        x.run(80);
        for (int pool = 0; pool < 4; pool++) {
            x.pause(pool, true);
            x.push(pool, 5);
        }
        x.saveState();
        // Questions about the future must not shine through either.
        x.errorsWith(3, 2, 30);
        CHECKS.due("A successful load", 3, () -> Checks.load(x, text));
        PoolScaler fresh = Checks.pools(text);
        CHECKS.due("A successful load replaces everything", Checks.picture(fresh), () -> Checks.picture(x));
        CHECKS.due("the time is 0", 0, () -> x.count(1));
        CHECKS.throwsMissing("nothing was demanded", () -> x.demand(0, 0));
        CHECKS.throwsMissing("no event is left", () -> x.event(0, 0));
        CHECKS.throwsBounds("no other pool is left", () -> x.pool(3, 0));
        CHECKS.due("nothing can be undone", -1, x::undo);
        CHECKS.due("nothing can be undone: count", 0, () -> x.count(5));
        CHECKS.throwsState("no state is saved", x::restoreState);
        fresh.run(30);
        x.run(30);
        CHECKS.due("A successful load replaces everything: it goes on alike", Checks.picture(fresh), () -> Checks.picture(x));
    }
}
