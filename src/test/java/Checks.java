/** What the tests share: they tell each answer that is not due, and end with exit code 1 if there was one. */
final class Checks {
    interface Call {
        Object answer();
    }

    private int wrong;

    void due(String what, Object due, Call call) {
        Object got;
        try {
            got = call.answer();
        } catch (RuntimeException e) {
            got = "throws " + e.getClass().getSimpleName();
        }
        if (!due.equals(got)) {
            wrong++;
            System.out.println(what + " answered " + got + ", due is " + due);
        }
    }

    void throwsBounds(String what, Call call) {
        due(what, "throws IndexOutOfBoundsException", call);
    }

    void throwsArgument(String what, Call call) {
        due(what, "throws IllegalArgumentException", call);
    }

    void throwsState(String what, Call call) {
        due(what, "throws IllegalStateException", call);
    }

    void throwsMissing(String what, Call call) {
        due(what, "throws NoSuchElementException", call);
    }

    void end() {
        System.out.println(wrong == 0 ? "all answers are as due" : wrong + " answers are not as due");
        if (wrong != 0) {
            System.exit(1);
        }
    }

    /** An object with these pools. */
    static PoolScaler pools(String text) {
        PoolScaler x = new PoolScaler();
        if (load(x, text) < 1) {
            throw new AssertionError("the setup of a test is wrong: " + text);
        }
        return x;
    }

    static int load(PoolScaler x, String text) {
        append(x, text);
        return x.loadPools();
    }

    /** Appends the text behind what the input has. */
    static void append(PoolScaler x, String text) {
        int end = text.length();
        for (int at = 0; at < text.length(); at += 20) {
            int length = x.appendInput(word(text, at), word(text, at + 4), word(text, at + 8), word(text, at + 12), word(text, at + 16));
            end = length - 20 + Math.min(20, text.length() - at);
        }
        if (!text.isEmpty()) {
            x.truncateInput(end);
        }
    }

    private static int word(String text, int at) {
        int word = 0;
        for (int i = at; i < at + 4; i++) {
            word = word << 8 | (i < text.length() ? text.charAt(i) & 255 : ' ');
        }
        return word;
    }

    /** The output as a text. */
    static String output(PoolScaler x) {
        StringBuilder text = new StringBuilder();
        for (int i = 0; x.outputByte(i) >= 0; i++) {
            text.append((char) x.outputByte(i));
        }
        return text.toString();
    }

    /** All that the questions tell of what is, but for the changes that can be undone. */
    static String picture(PoolScaler x) {
        StringBuilder text = new StringBuilder();
        for (int what = 0; what < 5; what++) {
            text.append(x.count(what)).append(' ');
        }
        for (int i = 0; i < x.count(0); i++) {
            addPool(text.append('\n'), x, i);
        }
        text.append("\nevents");
        for (int back = 0; back < Math.min(60, x.count(4)); back++) {
            for (int what = 0; what < 4; what++) {
                text.append(what == 0 ? " " : ".").append(x.event(back, what));
            }
        }
        return text.toString();
    }

    private static void addPool(StringBuilder text, PoolScaler x, int pool) {
        for (int what = 0; what < 21; what++) {
            text.append(x.pool(pool, what)).append(' ');
        }
        for (int i = 0; i < x.pool(pool, 3); i++) {
            int member = x.memberAt(pool, i);
            text.append(member);
            for (int what = 0; what < 5; what++) {
                text.append('.').append(x.member(member, what));
            }
            text.append(' ');
        }
        for (int back = 0; back < Math.min(24, x.count(1)); back++) {
            text.append(x.demand(pool, back)).append(',');
        }
        for (int ahead = 0; ahead < 24; ahead++) {
            text.append(x.planned(pool, ahead)).append(';');
        }
        for (int decision = 0; decision < 6; decision++) {
            text.append(x.decisions(pool, decision)).append('-');
        }
        text.append(' ').append(x.forecast(pool)).append(' ').append(x.wanted(pool)).append(' ').append(x.meanError(pool));
        text.append(' ').append(x.coolLeft(pool, true)).append(' ').append(x.coolLeft(pool, false));
        text.append(' ').append(x.served(pool)).append(' ').append(x.missed(pool)).append(' ').append(x.cost(pool));
        text.append(' ').append(x.used(pool)).append(' ').append(x.peak(pool)).append(' ').append(x.longestMiss(pool));
        // The errors of the forecasts that were made already, and the row of misses that goes on
        text.append(' ').append(x.errorsWith(pool, 0, 9)).append(' ').append(x.missedIn(pool, 9));
    }

    /** The decisions of a pool in so many ticks, one sign each. */
    static String decisions(PoolScaler x, int pool, int ticks) {
        StringBuilder text = new StringBuilder();
        for (int i = 0; i < ticks; i++) {
            x.run(1);
            text.append(x.pool(pool, 20));
        }
        return text.toString();
    }
}
