import java.util.ArrayList;
import java.util.Arrays;
import java.util.Collections;
import java.util.HashSet;
import java.util.List;
import java.util.NoSuchElementException;
import java.util.Set;
import java.util.TreeMap;
import java.util.function.ToLongFunction;
import java.util.regex.Matcher;
import java.util.regex.Pattern;

/**
 * The document in its plainest form, to compare the program with: every tick of the past is kept in lists,
 * and whatever is asked is worked out from them anew. Written from the document, not from the program.
 */
public final class PlainModel {
    static final class Member {
        int number;
        int came;
        int ready;
        boolean isProtected;
    }

    static final class Tick {
        int demand;
        int power;
        int size;
        int forecast;
        int wanted;
        int decision;
        int error = -1;
        long price;
        long fine;

        long missed() {
            return Math.max(0, demand - power);
        }

        long cost() {
            return price * size + fine * missed();
        }
    }

    static final class Pool {
        int min;
        int max;
        int cap;
        int up = 1;
        int down = 1;
        int coolUp = 3;
        int coolDown = 5;
        int target = 70;
        int warm = 2;
        int window = 4;
        int lead = 2;
        String policy = "watch";
        int period;
        String rule = "newest";
        int price = 1;
        int fine = 1;
        List<Integer> loads = new ArrayList<>();
        List<Member> members = new ArrayList<>();
        List<Tick> ticks = new ArrayList<>();
        int pushed;
        boolean paused;
        Set<String> told = new HashSet<>();

        int power(int time) {
            return cap * (int) members.stream().filter(m -> m.ready <= time).count();
        }

        int planned(int time) {
            return (loads.isEmpty() ? 0 : loads.get(time % loads.size())) + (time == ticks.size() ? pushed : 0);
        }

        /** The latest demands, the first one first. */
        List<Integer> latest(int many) {
            List<Integer> demands = new ArrayList<>();
            for (Tick tick : ticks.subList(Math.max(0, ticks.size() - many), ticks.size())) {
                demands.add(tick.demand);
            }
            return demands;
        }

        long sum(ToLongFunction<Tick> part) {
            return ticks.stream().mapToLong(part).sum();
        }

        Tick last() {
            return ticks.isEmpty() ? null : ticks.get(ticks.size() - 1);
        }

        /** The latest time at which one of these decisions was made. */
        int latestTime(int... decisions) {
            for (int t = ticks.size() - 1; t >= 0; t--) {
                for (int decision : decisions) {
                    if (ticks.get(t).decision == decision) {
                        return t;
                    }
                }
            }
            return -100000;
        }

        Member next() {
            List<Member> open = new ArrayList<>(members);
            open.removeIf(m -> m.isProtected);
            if (open.isEmpty()) {
                return null;
            }
            if (rule.equals("cold")) {
                open.sort((a, b) -> a.ready != b.ready ? b.ready - a.ready : b.number - a.number);
            } else if (rule.equals("newest")) {
                open.sort((a, b) -> b.number - a.number);
            } else {
                open.sort((a, b) -> a.number - b.number);
            }
            return open.get(0);
        }

        Pool copy() {
            Pool p = new Pool();
            p.min = min;
            p.max = max;
            p.cap = cap;
            p.up = up;
            p.down = down;
            p.coolUp = coolUp;
            p.coolDown = coolDown;
            p.target = target;
            p.warm = warm;
            p.window = window;
            p.lead = lead;
            p.policy = policy;
            p.period = period;
            p.rule = rule;
            p.price = price;
            p.fine = fine;
            p.loads = new ArrayList<>(loads);
            p.ticks = new ArrayList<>(ticks);
            p.pushed = pushed;
            p.paused = paused;
            for (Member m : members) {
                Member n = new Member();
                n.number = m.number;
                n.came = m.came;
                n.ready = m.ready;
                n.isProtected = m.isProtected;
                p.members.add(n);
            }
            return p;
        }
    }

    static final class State {
        List<Pool> pools = new ArrayList<>();
        int time;
        int numbers;
        List<int[]> events = new ArrayList<>();

        State copy() {
            State s = new State();
            for (Pool p : pools) {
                s.pools.add(p.copy());
            }
            s.time = time;
            s.numbers = numbers;
            s.events = new ArrayList<>(events);
            return s;
        }

        Member come(int pool, int ready) {
            Member m = new Member();
            m.number = numbers++;
            m.came = time;
            m.ready = ready;
            pools.get(pool).members.add(m);
            events.add(new int[] {time, 0, pool, m.number});
            return m;
        }

        void go(int pool, Member m) {
            pools.get(pool).members.remove(m);
            events.add(new int[] {time, 1, pool, m.number});
        }

        void tick() {
            for (int i = 0; i < pools.size(); i++) {
                Pool p = pools.get(i);
                Tick now = new Tick();
                now.demand = p.planned(time);
                now.power = p.power(time);
                now.size = p.members.size();
                now.price = p.price;
                now.fine = p.fine;
                p.pushed = 0;
                if (time - p.lead >= 0) {
                    now.error = Math.abs(p.ticks.get(time - p.lead).forecast - now.demand);
                }
                p.ticks.add(now);
                now.forecast = forecast(p);
                double exact = 100.0 * now.forecast / (p.target * p.cap);
                now.wanted = Math.min(p.max, Math.max(p.min, (int) Math.ceil(exact - 1e-9)));
                decide(p, i, now);
            }
            time++;
        }

        private int forecast(Pool p) {
            List<Integer> latest = p.latest(p.window);
            int demand = p.last().demand;
            if (p.policy.equals("watch")) {
                int sum = latest.stream().mapToInt(d -> d).sum();
                return sum / latest.size() + (sum % latest.size() > 0 ? 1 : 0);
            }
            if (p.policy.equals("trend")) {
                int slope = (demand - latest.get(0)) * p.lead / Math.max(latest.size() - 1, 1);
                return Math.max(demand + slope, 0);
            }
            for (int t = time; t >= 0; t--) {
                if ((time + p.lead - t) % p.period == 0) {
                    return p.ticks.get(t).demand;
                }
            }
            return demand;
        }

        private void decide(Pool p, int number, Tick now) {
            int size = p.members.size();
            if (p.paused) {
                now.decision = 3;
            } else if (now.wanted == size) {
                now.decision = 2;
            } else if (now.wanted > size) {
                now.decision = 4;
                now.decision = time - p.latestTime(0) < p.coolUp ? 4 : 0;
                for (int i = 0; now.decision == 0 && i < Math.min(p.up, now.wanted - size); i++) {
                    come(number, time + 1 + p.warm);
                }
            } else {
                now.decision = 4;
                now.decision = time - p.latestTime(0, 1) < p.coolDown ? 4 : p.next() == null ? 5 : 1;
                for (int i = 0; now.decision == 1 && i < Math.min(p.down, size - now.wanted) && p.next() != null; i++) {
                    go(number, p.next());
                }
            }
        }
    }

    private StringBuilder input = new StringBuilder();
    private int errorCode;
    private int errorOffset = -1;
    private State state;
    private State saved;
    private List<State> undone = new ArrayList<>();
    private String output = "";

    public PlainModel() {
        state = parse("pool 1 4 10;");
    }

    // Setup

    public int appendInput(int a, int b, int c, int d, int e) {
        if (input.length() + 20 > 700) {
            return -1;
        }
        for (int word : new int[] {a, b, c, d, e}) {
            input.append((char) (word >> 24 & 255)).append((char) (word >> 16 & 255));
            input.append((char) (word >> 8 & 255)).append((char) (word & 255));
        }
        return input.length();
    }

    public boolean truncateInput(int length) {
        if (length < 0 || length > input.length()) {
            return false;
        }
        input.setLength(length);
        return true;
    }

    static final class Refused extends RuntimeException {
        private static final long serialVersionUID = 1;
        final int code;
        final int offset;

        Refused(int code, int offset) {
            this.code = code;
            this.offset = offset;
        }
    }

    public int loadPools() {
        String text = input.toString();
        input.setLength(0);
        try {
            state = parse(text);
        } catch (Refused e) {
            errorCode = e.code;
            errorOffset = e.offset;
            return -1;
        }
        errorCode = 0;
        errorOffset = -1;
        undone.clear();
        saved = null;
        return state.pools.size();
    }

    private static final Pattern TOKEN = Pattern.compile("[a-z]+|[0-9]+|;|[^ \n]");
    private static final String WORDS = " pool step cool target warm window lead policy drop cost load protect ";

    private String[] tokens;
    private int[] offsets;
    private int at;
    private int end;

    private State parse(String text) {
        List<String> found = new ArrayList<>();
        List<Integer> places = new ArrayList<>();
        Matcher matcher = TOKEN.matcher(text);
        while (matcher.find()) {
            found.add(matcher.group());
            places.add(matcher.start());
        }
        tokens = found.toArray(new String[0]);
        offsets = places.stream().mapToInt(i -> i).toArray();
        at = 0;
        end = text.length();
        State s = new State();
        while (at < tokens.length) {
            statement(s);
        }
        if (s.pools.isEmpty()) {
            throw new Refused(5, end);
        }
        return s;
    }

    private int offset() {
        return at < tokens.length ? offsets[at] : end;
    }

    private String token() {
        return at < tokens.length ? tokens[at] : "";
    }

    private int number(int least, int most) {
        if (!token().matches("[0-9]{1,3}")) {
            throw new Refused(1, offset());
        }
        int value = Integer.parseInt(token());
        if (value < least || value > most) {
            throw new Refused(2, offset());
        }
        at++;
        return value;
    }

    private String oneOf(String... words) {
        String word = token();
        if (word.isEmpty() || !Arrays.asList(words).contains(word)) {
            throw new Refused(1, offset());
        }
        at++;
        return word;
    }

    private void statement(State s) {
        String word = token();
        int first = offset();
        Pool p = s.pools.isEmpty() ? null : s.pools.get(s.pools.size() - 1);
        if (!WORDS.contains(" " + word + " ") || (p == null && !word.equals("pool"))) {
            throw new Refused(1, first);
        }
        if (!word.equals("pool") && !word.equals("protect") && !p.told.add(word)) {
            throw new Refused(3, first);
        }
        if (word.equals("pool") && s.pools.size() == 4) {
            throw new Refused(4, first);
        }
        at++;
        switch (word) {
            case "pool" -> pool(s);
            case "step" -> { p.up = number(1, 5); p.down = number(1, 5); }
            case "cool" -> { p.coolUp = number(0, 30); p.coolDown = number(0, 30); }
            case "target" -> p.target = number(10, 100);
            case "warm" -> p.warm = number(0, 9);
            case "window" -> p.window = number(1, 8);
            case "lead" -> p.lead = number(1, 8);
            case "policy" -> {
                p.policy = oneOf("watch", "trend", "season");
                p.period = p.policy.equals("season") ? number(2, 24) : 0;
            }
            case "drop" -> p.rule = oneOf("newest", "oldest", "cold");
            case "cost" -> { p.price = number(0, 99); p.fine = number(0, 99); }
            case "load" -> {
                do {
                    p.loads.add(number(0, 999));
                } while (p.loads.size() < 24 && !token().equals(";"));
            }
            default -> {
                int offset = offset();
                int index = number(0, p.min - 1);
                if (p.members.get(index).isProtected) {
                    throw new Refused(3, offset);
                }
                p.members.get(index).isProtected = true;
            }
        }
        oneOf(";");
    }

    private void pool(State s) {
        Pool p = new Pool();
        p.min = number(0, 20);
        p.max = number(Math.max(p.min, 1), 20);
        p.cap = number(1, 100);
        s.pools.add(p);
        for (int i = 0; i < p.min; i++) {
            s.come(s.pools.size() - 1, 0);
        }
        s.events.clear();
    }

    public int errorCode() {
        return errorCode;
    }

    public int errorOffset() {
        return errorOffset;
    }

    // Guards

    private Pool at(int pool) {
        if (pool < 0 || pool >= state.pools.size()) {
            throw new IndexOutOfBoundsException();
        }
        return state.pools.get(pool);
    }

    private static void argument(boolean isRight) {
        if (!isRight) {
            throw new IllegalArgumentException();
        }
    }

    private static void state(boolean isRight) {
        if (!isRight) {
            throw new IllegalStateException();
        }
    }

    private static void exists(boolean isRight) {
        if (!isRight) {
            throw new NoSuchElementException();
        }
    }

    private int home(int member) {
        for (int i = 0; i < state.pools.size(); i++) {
            for (Member m : state.pools.get(i).members) {
                if (m.number == member) {
                    return i;
                }
            }
        }
        return -1;
    }

    private Member find(int member) {
        for (Pool p : state.pools) {
            for (Member m : p.members) {
                if (m.number == member) {
                    return m;
                }
            }
        }
        return null;
    }

    private void change() {
        undone.add(state.copy());
        if (undone.size() > 10) {
            undone.remove(0);
        }
    }

    // Questions

    public int count(int what) {
        argument(what >= 0 && what <= 5);
        int members = 0;
        for (Pool p : state.pools) {
            members += p.members.size();
        }
        return new int[] {state.pools.size(), state.time, members, state.numbers, state.events.size(), undone.size()}[what];
    }

    public int pool(int pool, int what) {
        Pool p = at(pool);
        argument(what >= 0 && what <= 20);
        int ready = (int) p.members.stream().filter(m -> m.ready <= state.time).count();
        int guarded = (int) p.members.stream().filter(m -> m.isProtected).count();
        int policy = List.of("watch", "trend", "season").indexOf(p.policy);
        int rule = List.of("newest", "oldest", "cold").indexOf(p.rule);
        return new int[] {p.min, p.max, p.cap, p.members.size(), ready, guarded, p.target, p.warm, p.window, p.lead, policy,
            p.period, rule, p.up, p.down, p.coolUp, p.coolDown, p.price, p.fine, p.paused ? 1 : 0,
            p.last() == null ? -1 : p.last().decision}[what];
    }

    public int member(int member, int what) {
        argument(what >= 0 && what <= 4);
        Member m = find(member);
        exists(m != null);
        return new int[] {home(member), m.came, m.ready, m.ready <= state.time ? 1 : 0, m.isProtected ? 1 : 0}[what];
    }

    public int memberAt(int pool, int index) {
        Pool p = at(pool);
        exists(index >= 0 && index < p.members.size());
        return p.members.get(index).number;
    }

    public int demand(int pool, int back) {
        List<Integer> latest = at(pool).latest(24);
        exists(back >= 0 && back < latest.size());
        return latest.get(latest.size() - 1 - back);
    }

    public int planned(int pool, int ahead) {
        Pool p = at(pool);
        argument(ahead >= 0 && ahead <= 999);
        return p.planned(state.time + ahead);
    }

    public int measure(int pool) {
        Pool p = at(pool);
        List<Integer> latest = p.latest(p.window);
        if (latest.isEmpty()) {
            return 0;
        }
        int power = p.power(state.time);
        return power == 0 ? 999 : Math.min(999, 100 * latest.stream().mapToInt(d -> d).sum() / (latest.size() * power));
    }

    public int forecast(int pool) {
        return at(pool).last() == null ? -1 : at(pool).last().forecast;
    }

    public int wanted(int pool) {
        return at(pool).last() == null ? -1 : at(pool).last().wanted;
    }

    public double meanError(int pool) {
        long errors = at(pool).sum(t -> t.error >= 0 ? 1 : 0);
        return errors == 0 ? 0.0 : (double) at(pool).sum(t -> Math.max(0, t.error)) / (double) errors;
    }

    public int nextDropped(int pool) {
        Member next = at(pool).next();
        return next == null ? -1 : next.number;
    }

    public int coolLeft(int pool, boolean up) {
        Pool p = at(pool);
        int left = 0;
        while (state.time + left - (up ? p.latestTime(0) : p.latestTime(0, 1)) < (up ? p.coolUp : p.coolDown)) {
            left++;
        }
        return left;
    }

    public long served(int pool) {
        return at(pool).sum(t -> t.demand - t.missed());
    }

    public long missed(int pool) {
        return at(pool).sum(t -> t.missed());
    }

    public long cost(int pool) {
        return at(pool).sum(t -> t.cost());
    }

    public float missedShare(int pool) {
        long all = at(pool).sum(t -> t.demand);
        return all == 0 ? 0 : (float) missed(pool) / (float) all;
    }

    public double used(int pool) {
        long powers = at(pool).sum(t -> t.power);
        return powers == 0 ? 0.0 : (double) served(pool) / (double) powers;
    }

    public int peak(int pool) {
        return at(pool).ticks.stream().mapToInt(t -> t.demand).max().orElse(0);
    }

    public int decisions(int pool, int decision) {
        Pool p = at(pool);
        argument(decision >= 0 && decision <= 5);
        return (int) p.sum(t -> t.decision == decision ? 1 : 0);
    }

    public int event(int back, int what) {
        argument(what >= 0 && what <= 3);
        exists(back >= 0 && back < 60 && back < state.events.size());
        return state.events.get(state.events.size() - 1 - back)[what];
    }

    public int longestMiss(int pool) {
        int longest = 0;
        int row = 0;
        for (Tick tick : at(pool).ticks) {
            row = tick.missed() > 0 ? row + 1 : 0;
            longest = Math.max(longest, row);
        }
        return longest;
    }

    public int headroom(int pool) {
        Pool p = at(pool);
        return p.power(state.time) - (p.last() == null ? 0 : p.last().demand);
    }

    public int busiest() {
        int found = 0;
        for (int i = 0; i < state.pools.size(); i++) {
            found = measure(i) > measure(found) ? i : found;
        }
        return found;
    }

    public int bestPeriod(int pool) {
        List<Integer> latest = at(pool).latest(24);
        int best = -1;
        double least = Double.MAX_VALUE;
        for (int period = 2; period <= 24; period++) {
            double sum = 0;
            double pairs = 0;
            for (int i = 0; i + period < latest.size(); i++) {
                sum += Math.abs(latest.get(i) - latest.get(i + period));
                pairs++;
            }
            if (pairs > 0 && sum / pairs < least) {
                best = period;
                least = sum / pairs;
            }
        }
        return best;
    }

    public double meanAge(int pool) {
        return at(pool).members.stream().mapToInt(m -> state.time - m.came).average().orElse(0.0);
    }

    public int median(int pool) {
        List<Integer> latest = at(pool).latest(24);
        Collections.sort(latest);
        return latest.isEmpty() ? 0 : latest.get((latest.size() - 1) / 2);
    }

    public int demandsWithin(int pool, int low, int high) {
        return (int) at(pool).latest(24).stream().filter(d -> d >= low && d <= high).count();
    }

    public int eldest() {
        TreeMap<Long, Integer> byAge = new TreeMap<>();
        for (Pool p : state.pools) {
            for (Member m : p.members) {
                byAge.put(m.came * 100000000L + m.number, m.number);
            }
        }
        return byAge.isEmpty() ? -1 : byAge.firstEntry().getValue();
    }

    // Changes

    public int run(int ticks) {
        argument(ticks >= 1 && ticks <= 300);
        change();
        int before = state.events.size();
        for (int i = 0; i < ticks; i++) {
            state.tick();
        }
        return state.events.size() - before;
    }

    public int push(int pool, int load) {
        Pool p = at(pool);
        argument(load >= 0 && load <= 999);
        change();
        p.pushed = Math.min(p.pushed + load, 999);
        return p.pushed;
    }

    public boolean protect(int member, boolean on) {
        Member m = find(member);
        exists(m != null);
        change();
        boolean was = m.isProtected;
        m.isProtected = on;
        return was;
    }

    public int grow(int pool, int many) {
        Pool p = at(pool);
        argument(many >= 1 && many <= 5);
        state(p.members.size() + many <= p.max);
        change();
        for (int i = 0; i < many; i++) {
            state.come(pool, state.time + p.warm);
        }
        return p.members.size();
    }

    public int drop(int member) {
        Member m = find(member);
        exists(m != null);
        Pool p = at(home(member));
        state(!m.isProtected && p.members.size() > p.min);
        change();
        state.go(home(member), m);
        return p.members.size();
    }

    public boolean pause(int pool, boolean on) {
        Pool p = at(pool);
        change();
        boolean was = p.paused;
        p.paused = on;
        return was;
    }

    public int setPolicy(int pool, int policy, int period) {
        Pool p = at(pool);
        argument(policy >= 0 && policy <= 2);
        argument(policy == 2 ? period >= 2 && period <= 24 : period == 0);
        change();
        int was = pool(pool, 10);
        p.policy = List.of("watch", "trend", "season").get(policy);
        p.period = period;
        return was;
    }

    public int setTarget(int pool, int target) {
        Pool p = at(pool);
        argument(target >= 10 && target <= 100);
        change();
        int was = p.target;
        p.target = target;
        return was;
    }

    public int setCool(int pool, int up, int down) {
        Pool p = at(pool);
        argument(up >= 0 && up <= 30 && down >= 0 && down <= 30);
        change();
        int was = 100 * p.coolUp + p.coolDown;
        p.coolUp = up;
        p.coolDown = down;
        return was;
    }

    public int setBounds(int pool, int min, int max) {
        Pool p = at(pool);
        argument(min >= 0 && min <= 20 && max >= 1 && max <= 20 && max >= min);
        change();
        int was = 100 * p.min + p.max;
        p.min = min;
        p.max = max;
        return was;
    }

    public int transfer(int member, int pool) {
        Pool to = at(pool);
        int home = home(member);
        Member m = find(member);
        argument(home != pool);
        state(m == null || (!m.isProtected && at(home).members.size() > at(home).min));
        state(to.members.size() < to.max);
        exists(m != null);
        change();
        state.go(home, m);
        return state.come(pool, state.time + to.warm).number;
    }

    public int setLoad(int pool, int index, int load) {
        Pool p = at(pool);
        argument(load >= 0 && load <= 999);
        exists(index >= 0 && index < p.loads.size());
        change();
        return p.loads.set(index, load);
    }

    public int dropCold(int pool) {
        Pool p = at(pool);
        change();
        List<Member> cold = new ArrayList<>(p.members);
        cold.removeIf(m -> m.isProtected || m.ready <= state.time);
        Collections.reverse(cold);
        int dropped = 0;
        for (Member m : cold) {
            if (p.members.size() > p.min) {
                state.go(pool, m);
                dropped++;
            }
        }
        return dropped;
    }

    public int hurry(int pool) {
        Pool p = at(pool);
        change();
        int[] was = {p.coolUp, p.coolDown};
        p.coolUp = 0;
        p.coolDown = 0;
        state.tick();
        p.coolUp = was[0];
        p.coolDown = was[1];
        return p.last().decision;
    }

    // The future: the ticks that a pool would have

    private List<Tick> future(State from, int pool, int ticks) {
        for (int i = 0; i < ticks; i++) {
            from.tick();
        }
        List<Tick> all = from.pools.get(pool).ticks;
        return all.subList(all.size() - ticks, all.size());
    }

    private List<Tick> future(int pool, int ticks) {
        at(pool);
        argument(ticks >= 1 && ticks <= 300);
        return future(state.copy(), pool, ticks);
    }

    public int sizeIn(int pool, int ticks) {
        future(pool, ticks);
        State copy = state.copy();
        future(copy, pool, ticks);
        return copy.pools.get(pool).members.size();
    }

    public long missedIn(int pool, int ticks) {
        return future(pool, ticks).stream().mapToLong(t -> t.missed()).sum();
    }

    public long costIn(int pool, int ticks) {
        return future(pool, ticks).stream().mapToLong(t -> t.cost()).sum();
    }

    public int missesIn(int pool, int ticks) {
        List<Tick> future = future(pool, ticks);
        for (int i = 0; i < ticks; i++) {
            if (future.get(i).missed() > 0) {
                return i + 1;
            }
        }
        return -1;
    }

    public int settlesIn(int pool, int ticks) {
        List<Tick> future = future(pool, ticks);
        for (int i = 0; i < ticks; i++) {
            if (future.get(i).decision == 2) {
                return i + 1;
            }
        }
        return -1;
    }

    public int changesIn(int pool, int ticks) {
        future(pool, ticks);
        State copy = state.copy();
        future(copy, pool, ticks);
        return (int) copy.events.subList(state.events.size(), copy.events.size()).stream().filter(e -> e[2] == pool).count();
    }

    public int greatestIn(int pool, int ticks) {
        future(pool, ticks);
        State copy = state.copy();
        int greatest = 0;
        for (int i = 0; i < ticks; i++) {
            copy.tick();
            greatest = Math.max(greatest, copy.pools.get(pool).members.size());
        }
        return greatest;
    }

    public int needed(int pool, int ticks) {
        Pool p = at(pool);
        argument(ticks >= 1 && ticks <= 300);
        int members = 0;
        for (int i = 0; i < ticks; i++) {
            while (members * p.cap < p.planned(state.time + i)) {
                members++;
            }
        }
        return members;
    }

    private State withPolicy(int pool, int policy) {
        State copy = state.copy();
        Pool p = copy.pools.get(pool);
        p.period = policy != 2 ? 0 : p.policy.equals("season") ? p.period : 24;
        p.policy = List.of("watch", "trend", "season").get(policy);
        return copy;
    }

    private long cost(State from, int pool, int ticks) {
        return future(from, pool, ticks).stream().mapToLong(t -> t.cost()).sum();
    }

    public long errorsWith(int pool, int policy, int ticks) {
        at(pool);
        argument(policy >= 0 && policy <= 2 && ticks >= 1 && ticks <= 300);
        return future(withPolicy(pool, policy), pool, ticks).stream().mapToLong(t -> Math.max(0, t.error)).sum();
    }

    public int bestPolicy(int pool, int ticks) {
        future(pool, ticks);
        long[] costs = new long[3];
        for (int policy = 0; policy < 3; policy++) {
            costs[policy] = cost(withPolicy(pool, policy), pool, ticks);
        }
        return firstLeast(costs);
    }

    public int bestTarget(int pool, int ticks) {
        future(pool, ticks);
        long[] costs = new long[10];
        for (int i = 0; i < 10; i++) {
            State copy = state.copy();
            copy.pools.get(pool).target = 10 + 10 * i;
            costs[i] = cost(copy, pool, ticks);
        }
        return 10 + 10 * firstLeast(costs);
    }

    public int bestCool(int pool, int ticks) {
        future(pool, ticks);
        long[] costs = new long[7];
        for (int i = 0; i < 7; i++) {
            State copy = state.copy();
            copy.pools.get(pool).coolDown = 5 * i;
            costs[i] = cost(copy, pool, ticks);
        }
        return 5 * firstLeast(costs);
    }

    private static int firstLeast(long[] costs) {
        long least = Arrays.stream(costs).min().getAsLong();
        int i = 0;
        while (costs[i] != least) {
            i++;
        }
        return i;
    }

    // Output, undoing, saving

    public int printPool(int pool) {
        Pool p = at(pool);
        List<String> parts = new ArrayList<>();
        for (Member m : p.members) {
            parts.add(m.number + (m.isProtected ? "*" : "") + (m.ready > state.time ? "-" : ""));
        }
        parts.add("=" + p.power(state.time));
        output = String.join(" ", parts);
        return output.length();
    }

    public int outputByte(int index) {
        return index < 0 || index >= output.length() ? -1 : output.charAt(index);
    }

    public int undo() {
        if (undone.isEmpty()) {
            return -1;
        }
        state = undone.remove(undone.size() - 1);
        return undone.size();
    }

    public int saveState() {
        saved = state.copy();
        return state.time;
    }

    public int restoreState() {
        state(saved != null);
        state = saved.copy();
        undone.clear();
        return state.time;
    }
}
