import java.util.Arrays;
import java.util.NoSuchElementException;

/** Pools of members that grow and shrink by their load. */
public final class PoolScaler {
    public static final int NO_ERROR = 0;
    public static final int SYNTAX = 1;
    public static final int OUT_OF_RANGE = 2;
    public static final int TWICE = 3;
    public static final int TOO_MANY = 4;
    public static final int NO_POOL = 5;

    private static final int INPUT_BYTES = 700;
    // Room for 20 members of 10 digits with both signs and a space, and for the power.
    private static final int OUTPUT_BYTES = 300;
    private static final int MOST_POOLS = 4;
    private static final int MOST_MEMBERS = 20;
    private static final int MOST_CAP = 100;
    private static final int MOST_LOADS = 24;
    private static final int MOST_LOAD = 999;
    private static final int MOST_AHEAD = 999;
    private static final int MOST_TICKS = 300;
    private static final int MOST_STEP = 5;
    private static final int MOST_COOL = 30;
    private static final int MOST_MEASURE = 999;
    private static final int LEAST_TARGET = 10;
    private static final int MOST_TARGET = 100;
    private static final int LEAST_PERIOD = 2;
    private static final int MOST_PERIOD = 24;
    private static final int MOST_LEAD = 8;
    private static final int MOST_WINDOW = 8;
    private static final int MOST_WARM = 9;
    private static final int MOST_MONEY = 99;

    private static final int KEPT_DEMANDS = 24;
    private static final int KEPT_EVENTS = 60;
    private static final int KEPT_CHANGES = 10;

    private static final int WATCH = 0;
    private static final int TREND = 1;
    private static final int SEASON = 2;

    private static final int NEWEST = 0;
    private static final int OLDEST = 1;
    private static final int COLD = 2;

    private static final int GROWS = 0;
    private static final int SHRINKS = 1;
    private static final int STAYS = 2;
    private static final int PAUSED = 3;
    private static final int COOLS = 4;
    private static final int ALL_PROTECTED = 5;
    private static final int KINDS_OF_DECISIONS = 6;

    private static final int CAME = 0;
    private static final int WENT = 1;

    private static final int NONE = -1;
    // So long ago that no cool-down reaches from there to the time 0.
    private static final int NEVER = -1000;

    private final byte[] input = new byte[INPUT_BYTES];
    private int inputLength;
    private int latestError = NO_ERROR;
    private int latestErrorOffset = NONE;
    private final SetupReader reader = new SetupReader();
    private final Output output = new Output();
    private final State state = new State();
    // Takes what is tried out: a setup while it is read, and the future that is asked about.
    private final State draft = new State();
    private final State saved = new State();
    private boolean isSaved;
    // What the state was before each change that can be undone, the oldest first.
    private final State[] before = new State[KEPT_CHANGES];
    private int changes;

    public PoolScaler() {
        for (int i = 0; i < KEPT_CHANGES; i++) {
            before[i] = new State();
        }
        state.addPool(1, 4, 10);
    }

    // The input and its loading

    public int appendInput(int a, int b, int c, int d, int e) {
        if (inputLength + 20 > INPUT_BYTES) {
            return -1;
        }
        appendWord(a);
        appendWord(b);
        appendWord(c);
        appendWord(d);
        appendWord(e);
        return inputLength;
    }

    private void appendWord(int word) {
        for (int shift = 24; shift >= 0; shift -= 8) {
            if (inputLength < INPUT_BYTES) {
                input[inputLength] = (byte) (word >>> shift);
                inputLength++;
            }
        }
    }

    public boolean truncateInput(int length) {
        if (length < 0 || length > inputLength) {
            return false;
        }
        inputLength = length;
        return true;
    }

    public int loadPools() {
        reader.readSetup(input, inputLength, draft);
        inputLength = 0;
        latestError = reader.error;
        latestErrorOffset = reader.errorAt;
        if (latestError != NO_ERROR) {
            return -1;
        }
        state.copyFrom(draft);
        changes = 0;
        isSaved = false;
        return state.poolCount;
    }

    public int errorCode() {
        return latestError;
    }

    public int errorOffset() {
        return latestErrorOffset;
    }

    // Questions about what is

    public int count(int what) throws IllegalArgumentException {
        switch (what) {
            case 0: return state.poolCount;
            case 1: return state.time;
            case 2: return state.countMembers();
            case 3: return state.nextMember;
            case 4: return state.events.total;
            case 5: return changes;
            default: throw new IllegalArgumentException("no such number");
        }
    }

    public int pool(int pool, int what) throws IndexOutOfBoundsException, IllegalArgumentException {
        Pool asked = existingPool(pool);
        requireRange(what, 0, 20);
        switch (what) {
            case 3: return asked.members.size;
            case 4: return asked.members.countReady(state.time);
            case 5: return asked.members.countProtected();
            case 19: return asked.paused ? 1 : 0;
            case 20: return asked.decision;
            default: return asked.settings.numbered(what);
        }
    }

    public int member(int member, int what) throws IllegalArgumentException, NoSuchElementException {
        requireRange(what, 0, 4);
        int home = state.homeOf(member);
        int place = state.placeIn(home, member);
        if (place < 0) {
            throw new NoSuchElementException("no such member");
        }
        Members members = state.pools[home].members;
        switch (what) {
            case 0: return home;
            case 1: return members.cameAt[place];
            case 2: return members.readyFrom[place];
            case 3: return members.isReady(place, state.time) ? 1 : 0;
            default: return members.isProtected[place] ? 1 : 0;
        }
    }

    public int memberAt(int pool, int index) throws IndexOutOfBoundsException, NoSuchElementException {
        Members members = existingPool(pool).members;
        if (index < 0 || index >= members.size) {
            throw new NoSuchElementException("no such index");
        }
        return members.numbers[index];
    }

    public int demand(int pool, int back) throws IndexOutOfBoundsException, NoSuchElementException {
        Pool asked = existingPool(pool);
        if (back < 0 || back >= asked.keptDemands()) {
            throw new NoSuchElementException("no such demand");
        }
        return asked.demandBack(back);
    }

    public int planned(int pool, int ahead) throws IndexOutOfBoundsException, IllegalArgumentException {
        Pool asked = existingPool(pool);
        requireRange(ahead, 0, MOST_AHEAD);
        return asked.demandAhead(state.time, ahead);
    }

    public int measure(int pool) throws IndexOutOfBoundsException {
        return existingPool(pool).percentUsed(state.time);
    }

    public int forecast(int pool) throws IndexOutOfBoundsException {
        return existingPool(pool).forecast;
    }

    public int wanted(int pool) throws IndexOutOfBoundsException {
        return existingPool(pool).wanted;
    }

    public double meanError(int pool) throws IndexOutOfBoundsException {
        Tally tally = existingPool(pool).tally;
        if (tally.errors == 0) {
            return 0.0;
        }
        return (double) tally.errorSum / (double) tally.errors;
    }

    public int nextDropped(int pool) throws IndexOutOfBoundsException {
        Pool asked = existingPool(pool);
        int place = asked.members.nextToGo(asked.settings.rule);
        return place < 0 ? -1 : asked.members.numbers[place];
    }

    public int coolLeft(int pool, boolean up) throws IndexOutOfBoundsException {
        Pool asked = existingPool(pool);
        int end = up ? asked.grewAt + asked.settings.coolUp : asked.movedAt + asked.settings.coolDown;
        return Math.max(0, end - state.time);
    }

    public long served(int pool) throws IndexOutOfBoundsException {
        return existingPool(pool).tally.served;
    }

    public long missed(int pool) throws IndexOutOfBoundsException {
        return existingPool(pool).tally.missed;
    }

    public long cost(int pool) throws IndexOutOfBoundsException {
        return existingPool(pool).tally.cost;
    }

    public float missedShare(int pool) throws IndexOutOfBoundsException {
        Tally tally = existingPool(pool).tally;
        long demanded = tally.served + tally.missed;
        if (demanded == 0) {
            return 0.0f;
        }
        return (float) tally.missed / (float) demanded;
    }

    public double used(int pool) throws IndexOutOfBoundsException {
        Tally tally = existingPool(pool).tally;
        if (tally.powers == 0) {
            return 0.0;
        }
        return (double) tally.served / (double) tally.powers;
    }

    public int peak(int pool) throws IndexOutOfBoundsException {
        return existingPool(pool).tally.greatestDemand;
    }

    public int decisions(int pool, int decision) throws IndexOutOfBoundsException, IllegalArgumentException {
        Pool asked = existingPool(pool);
        requireRange(decision, 0, KINDS_OF_DECISIONS - 1);
        return asked.tally.decided[decision];
    }

    public int event(int back, int what) throws IllegalArgumentException, NoSuchElementException {
        requireRange(what, 0, 3);
        if (back < 0 || back >= state.events.kept()) {
            throw new NoSuchElementException("no such event");
        }
        return state.events.part(back, what);
    }

    public int longestMiss(int pool) throws IndexOutOfBoundsException {
        return existingPool(pool).tally.longestMissRow;
    }

    public int headroom(int pool) throws IndexOutOfBoundsException {
        Pool asked = existingPool(pool);
        return asked.powerAt(state.time) - asked.demandBack(0);
    }

    public int busiest() {
        int found = 0;
        for (int i = 1; i < state.poolCount; i++) {
            if (state.pools[i].percentUsed(state.time) > state.pools[found].percentUsed(state.time)) {
                found = i;
            }
        }
        return found;
    }

    public int bestPeriod(int pool) throws IndexOutOfBoundsException {
        return existingPool(pool).periodThatRepeatsBest();
    }

    public double meanAge(int pool) throws IndexOutOfBoundsException {
        Members members = existingPool(pool).members;
        if (members.size == 0) {
            return 0.0;
        }
        return (double) members.sumOfAges(state.time) / (double) members.size;
    }

    public int median(int pool) throws IndexOutOfBoundsException {
        return existingPool(pool).middleDemand();
    }

    public int demandsWithin(int pool, int low, int high) throws IndexOutOfBoundsException {
        return existingPool(pool).countDemands(low, high);
    }

    public int eldest() {
        int found = NONE;
        int foundCameAt = 0;
        for (int i = 0; i < state.poolCount; i++) {
            Members members = state.pools[i].members;
            for (int place = 0; place < members.size; place++) {
                int number = members.numbers[place];
                int cameAt = members.cameAt[place];
                if (found == NONE || cameAt < foundCameAt || (cameAt == foundCameAt && number < found)) {
                    found = number;
                    foundCameAt = cameAt;
                }
            }
        }
        return found;
    }

    // Changes

    public int run(int ticks) throws IllegalArgumentException {
        requireRange(ticks, 1, MOST_TICKS);
        remember();
        int eventsBefore = state.events.total;
        for (int i = 0; i < ticks; i++) {
            state.tickAll();
        }
        return state.events.total - eventsBefore;
    }

    public int push(int pool, int load) throws IndexOutOfBoundsException, IllegalArgumentException {
        Pool changed = existingPool(pool);
        requireRange(load, 0, MOST_LOAD);
        remember();
        changed.pushed = Math.min(MOST_LOAD, changed.pushed + load);
        return changed.pushed;
    }

    public boolean protect(int member, boolean on) throws NoSuchElementException {
        int home = state.homeOf(member);
        int place = state.placeIn(home, member);
        if (place < 0) {
            throw new NoSuchElementException("no such member");
        }
        remember();
        Members members = state.pools[home].members;
        boolean wasProtected = members.isProtected[place];
        members.isProtected[place] = on;
        return wasProtected;
    }

    public int grow(int pool, int many) throws IndexOutOfBoundsException, IllegalArgumentException, IllegalStateException {
        Pool changed = existingPool(pool);
        requireRange(many, 1, MOST_STEP);
        if (changed.members.size + many > changed.settings.max) {
            throw new IllegalStateException("more than MAX members");
        }
        remember();
        for (int i = 0; i < many; i++) {
            state.addMember(pool, state.time + changed.settings.warm);
        }
        return changed.members.size;
    }

    public int drop(int member) throws IllegalStateException, NoSuchElementException {
        int home = state.homeOf(member);
        int place = state.placeIn(home, member);
        if (place < 0) {
            throw new NoSuchElementException("no such member");
        }
        Pool changed = state.pools[home];
        if (!changed.canSpare(place)) {
            throw new IllegalStateException("the member must stay");
        }
        remember();
        state.removeMember(home, place);
        return changed.members.size;
    }

    public int dropCold(int pool) throws IndexOutOfBoundsException {
        Pool changed = existingPool(pool);
        remember();
        int sizeBefore = changed.members.size;
        for (int place = sizeBefore - 1; place >= 0; place--) {
            if (changed.canSpare(place) && !changed.members.isReady(place, state.time)) {
                state.removeMember(pool, place);
            }
        }
        return sizeBefore - changed.members.size;
    }

    public int transfer(int member, int pool) throws IndexOutOfBoundsException, IllegalArgumentException, IllegalStateException, NoSuchElementException {
        Pool taker = existingPool(pool);
        int home = state.homeOf(member);
        int place = state.placeIn(home, member);
        if (home == pool) {
            throw new IllegalArgumentException("the member is in this pool");
        }
        // A pool that is full is a reason of its own, and comes before a member that does not exist.
        if (taker.members.size >= taker.settings.max) {
            throw new IllegalStateException("the pool has MAX members");
        }
        if (place < 0) {
            throw new NoSuchElementException("no such member");
        }
        if (!state.pools[home].canSpare(place)) {
            throw new IllegalStateException("the member must stay");
        }
        remember();
        state.removeMember(home, place);
        return state.addMember(pool, state.time + taker.settings.warm);
    }

    public boolean pause(int pool, boolean on) throws IndexOutOfBoundsException {
        Pool changed = existingPool(pool);
        remember();
        boolean wasPaused = changed.paused;
        changed.paused = on;
        return wasPaused;
    }

    public int setPolicy(int pool, int policy, int period) throws IndexOutOfBoundsException, IllegalArgumentException {
        Settings changed = existingPool(pool).settings;
        requireRange(policy, WATCH, SEASON);
        requireRange(period, policy == SEASON ? LEAST_PERIOD : 0, policy == SEASON ? MOST_PERIOD : 0);
        remember();
        int policyBefore = changed.policy;
        changed.policy = policy;
        changed.period = period;
        return policyBefore;
    }

    public int setTarget(int pool, int target) throws IndexOutOfBoundsException, IllegalArgumentException {
        Settings changed = existingPool(pool).settings;
        requireRange(target, LEAST_TARGET, MOST_TARGET);
        remember();
        int targetBefore = changed.target;
        changed.target = target;
        return targetBefore;
    }

    public int setCool(int pool, int up, int down) throws IndexOutOfBoundsException, IllegalArgumentException {
        Settings changed = existingPool(pool).settings;
        requireRange(up, 0, MOST_COOL);
        requireRange(down, 0, MOST_COOL);
        remember();
        int coolBefore = 100 * changed.coolUp + changed.coolDown;
        changed.coolUp = up;
        changed.coolDown = down;
        return coolBefore;
    }

    public int setBounds(int pool, int min, int max) throws IndexOutOfBoundsException, IllegalArgumentException {
        Settings changed = existingPool(pool).settings;
        requireRange(min, 0, MOST_MEMBERS);
        requireRange(max, Math.max(1, min), MOST_MEMBERS);
        remember();
        int boundsBefore = 100 * changed.min + changed.max;
        changed.min = min;
        changed.max = max;
        return boundsBefore;
    }

    public int setLoad(int pool, int index, int load) throws IndexOutOfBoundsException, IllegalArgumentException, NoSuchElementException {
        Settings changed = existingPool(pool).settings;
        requireRange(load, 0, MOST_LOAD);
        if (index < 0 || index >= changed.loadCount) {
            throw new NoSuchElementException("no such index");
        }
        remember();
        int loadBefore = changed.loads[index];
        changed.loads[index] = load;
        return loadBefore;
    }

    public int hurry(int pool) throws IndexOutOfBoundsException {
        Pool changed = existingPool(pool);
        remember();
        int coolUp = changed.settings.coolUp;
        int coolDown = changed.settings.coolDown;
        changed.settings.coolUp = 0;
        changed.settings.coolDown = 0;
        state.tickAll();
        changed.settings.coolUp = coolUp;
        changed.settings.coolDown = coolDown;
        return changed.decision;
    }

    // Questions about the future

    public int sizeIn(int pool, int ticks) throws IndexOutOfBoundsException, IllegalArgumentException {
        Pool tried = startTrial(pool, ticks);
        tryTicks(pool, ticks);
        return tried.members.size;
    }

    public long missedIn(int pool, int ticks) throws IndexOutOfBoundsException, IllegalArgumentException {
        Pool tried = startTrial(pool, ticks);
        long missedBefore = tried.tally.missed;
        tryTicks(pool, ticks);
        return tried.tally.missed - missedBefore;
    }

    public long costIn(int pool, int ticks) throws IndexOutOfBoundsException, IllegalArgumentException {
        return tryCost(startTrial(pool, ticks), pool, ticks);
    }

    public int missesIn(int pool, int ticks) throws IndexOutOfBoundsException, IllegalArgumentException {
        Pool tried = startTrial(pool, ticks);
        long missedBefore = tried.tally.missed;
        for (int tick = 1; tick <= ticks; tick++) {
            tryTick(pool);
            if (tried.tally.missed > missedBefore) {
                return tick;
            }
        }
        return -1;
    }

    public int changesIn(int pool, int ticks) throws IndexOutOfBoundsException, IllegalArgumentException {
        startTrial(pool, ticks);
        int eventsBefore = draft.events.total;
        tryTicks(pool, ticks);
        return draft.events.total - eventsBefore;
    }

    public int settlesIn(int pool, int ticks) throws IndexOutOfBoundsException, IllegalArgumentException {
        Pool tried = startTrial(pool, ticks);
        for (int tick = 1; tick <= ticks; tick++) {
            tryTick(pool);
            if (tried.decision == STAYS) {
                return tick;
            }
        }
        return -1;
    }

    public int greatestIn(int pool, int ticks) throws IndexOutOfBoundsException, IllegalArgumentException {
        Pool tried = startTrial(pool, ticks);
        int greatest = 0;
        for (int tick = 1; tick <= ticks; tick++) {
            tryTick(pool);
            greatest = Math.max(greatest, tried.members.size);
        }
        return greatest;
    }

    public int needed(int pool, int ticks) throws IndexOutOfBoundsException, IllegalArgumentException {
        Pool asked = existingPool(pool);
        requireRange(ticks, 1, MOST_TICKS);
        int most = 0;
        for (int ahead = 0; ahead < ticks; ahead++) {
            int demand = asked.demandAhead(state.time, ahead);
            most = Math.max(most, dividedUp(demand, asked.settings.cap));
        }
        return most;
    }

    public long errorsWith(int pool, int policy, int ticks) throws IndexOutOfBoundsException, IllegalArgumentException {
        existingPool(pool);
        requireRange(policy, WATCH, SEASON);
        Pool tried = startTrial(pool, ticks);
        tried.settings.tryPolicy(policy);
        long errorsBefore = tried.tally.errorSum;
        tryTicks(pool, ticks);
        return tried.tally.errorSum - errorsBefore;
    }

    public int bestPolicy(int pool, int ticks) throws IndexOutOfBoundsException, IllegalArgumentException {
        int best = NONE;
        long leastCost = 0;
        for (int policy = WATCH; policy <= SEASON; policy++) {
            Pool tried = startTrial(pool, ticks);
            tried.settings.tryPolicy(policy);
            long cost = tryCost(tried, pool, ticks);
            if (best == NONE || cost < leastCost) {
                best = policy;
                leastCost = cost;
            }
        }
        return best;
    }

    public int bestTarget(int pool, int ticks) throws IndexOutOfBoundsException, IllegalArgumentException {
        int best = NONE;
        long leastCost = 0;
        for (int target = LEAST_TARGET; target <= MOST_TARGET; target += 10) {
            Pool tried = startTrial(pool, ticks);
            tried.settings.target = target;
            long cost = tryCost(tried, pool, ticks);
            if (best == NONE || cost < leastCost) {
                best = target;
                leastCost = cost;
            }
        }
        return best;
    }

    public int bestCool(int pool, int ticks) throws IndexOutOfBoundsException, IllegalArgumentException {
        int best = NONE;
        long leastCost = 0;
        for (int coolDown = 0; coolDown <= MOST_COOL; coolDown += 5) {
            Pool tried = startTrial(pool, ticks);
            tried.settings.coolDown = coolDown;
            long cost = tryCost(tried, pool, ticks);
            if (best == NONE || cost < leastCost) {
                best = coolDown;
                leastCost = cost;
            }
        }
        return best;
    }

    private Pool startTrial(int pool, int ticks) {
        existingPool(pool);
        requireRange(ticks, 1, MOST_TICKS);
        draft.copyFrom(state);
        return draft.pools[pool];
    }

    // Other pools have no part in what becomes of this one, so they stay as they are in the draft.
    private void tryTick(int pool) {
        draft.passPhases(pool);
        draft.time++;
    }

    private void tryTicks(int pool, int ticks) {
        for (int i = 0; i < ticks; i++) {
            tryTick(pool);
        }
    }

    private long tryCost(Pool tried, int pool, int ticks) {
        long costBefore = tried.tally.cost;
        for (int i = 0; i < ticks; i++) {
            tryTick(pool);
        }
        return tried.tally.cost - costBefore;
    }

    // The output

    public int printPool(int pool) throws IndexOutOfBoundsException {
        Pool printed = existingPool(pool);
        Members members = printed.members;
        output.length = 0;
        for (int place = 0; place < members.size; place++) {
            output.addNumber(members.numbers[place]);
            if (members.isProtected[place]) {
                output.addByte('*');
            }
            if (!members.isReady(place, state.time)) {
                output.addByte('-');
            }
            output.addByte(' ');
        }
        output.addByte('=');
        output.addNumber(printed.powerAt(state.time));
        return output.length;
    }

    public int outputByte(int index) {
        if (index < 0 || index >= output.length) {
            return -1;
        }
        return output.bytes[index];
    }

    // Undoing and saving

    public int undo() {
        if (changes <= 0) {
            return -1;
        }
        changes--;
        state.copyFrom(before[changes]);
        return changes;
    }

    public int saveState() {
        saved.copyFrom(state);
        isSaved = true;
        return state.time;
    }

    public int restoreState() throws IllegalStateException {
        if (!isSaved) {
            throw new IllegalStateException("no state is saved");
        }
        state.copyFrom(saved);
        changes = 0;
        return state.time;
    }

    private void remember() {
        if (changes >= KEPT_CHANGES) {
            State oldest = before[0];
            for (int i = 1; i < KEPT_CHANGES; i++) {
                before[i - 1] = before[i];
            }
            before[KEPT_CHANGES - 1] = oldest;
            changes = KEPT_CHANGES - 1;
        }
        before[changes].copyFrom(state);
        changes++;
    }

    // What the methods above require

    private Pool existingPool(int pool) {
        if (pool < 0 || pool >= state.poolCount) {
            throw new IndexOutOfBoundsException("no such pool");
        }
        return state.pools[pool];
    }

    private static void requireRange(int value, int least, int greatest) {
        if (value < least || value > greatest) {
            throw new IllegalArgumentException("out of range");
        }
    }

    private static int dividedUp(int number, int by) {
        return by <= 0 ? 0 : (number + by - 1) / by;
    }

    /** What a setup tells of a pool, and what can be set later. */
    private static final class Settings {
        int min;
        int max;
        int cap;
        int target;
        int warm;
        int window;
        int lead;
        int policy;
        int period;
        int rule;
        int up;
        int down;
        int coolUp;
        int coolDown;
        int price;
        int fine;
        final int[] loads = new int[MOST_LOADS];
        int loadCount;

        void begin(int toldMin, int toldMax, int toldCap) {
            min = toldMin;
            max = toldMax;
            cap = toldCap;
            target = 70;
            warm = 2;
            window = 4;
            lead = 2;
            policy = WATCH;
            period = 0;
            rule = NEWEST;
            up = 1;
            down = 1;
            coolUp = 3;
            coolDown = 5;
            price = 1;
            fine = 1;
            loadCount = 0;
        }

        void copyFrom(Settings other) {
            min = other.min;
            max = other.max;
            cap = other.cap;
            target = other.target;
            warm = other.warm;
            window = other.window;
            lead = other.lead;
            policy = other.policy;
            period = other.period;
            rule = other.rule;
            up = other.up;
            down = other.down;
            coolUp = other.coolUp;
            coolDown = other.coolDown;
            price = other.price;
            fine = other.fine;
            System.arraycopy(other.loads, 0, loads, 0, MOST_LOADS);
            loadCount = other.loadCount;
        }

        /** The setting that the method pool has under this number. */
        int numbered(int what) {
            switch (what) {
                case 0: return min;
                case 1: return max;
                case 2: return cap;
                case 6: return target;
                case 7: return warm;
                case 8: return window;
                case 9: return lead;
                case 10: return policy;
                case 11: return period;
                case 12: return rule;
                case 13: return up;
                case 14: return down;
                case 15: return coolUp;
                case 16: return coolDown;
                case 17: return price;
                case 18: return fine;
                default: return NONE;
            }
        }

        void tryPolicy(int tried) {
            if (tried != SEASON) {
                period = 0;
            } else if (policy != SEASON) {
                period = MOST_PERIOD;
            }
            policy = tried;
        }

        int loadAt(int time) {
            return loadCount <= 0 ? 0 : loads[Math.floorMod(time, loadCount)];
        }

        int sizeFor(int forecast) {
            int size = dividedUp(100 * forecast, target * cap);
            return Math.min(max, Math.max(min, size));
        }
    }

    /** The members of a pool, by their numbers. */
    private static final class Members {
        final int[] numbers = new int[MOST_MEMBERS];
        final int[] cameAt = new int[MOST_MEMBERS];
        final int[] readyFrom = new int[MOST_MEMBERS];
        final boolean[] isProtected = new boolean[MOST_MEMBERS];
        int size;

        void copyFrom(Members other) {
            size = 0;
            for (int place = 0; place < other.size; place++) {
                add(other.numbers[place], other.cameAt[place], other.readyFrom[place]);
                isProtected[place] = other.isProtected[place];
            }
        }

        // A new member has the greatest number, so it belongs at the end.
        void add(int number, int came, int ready) {
            if (size < MOST_MEMBERS) {
                numbers[size] = number;
                cameAt[size] = came;
                readyFrom[size] = ready;
                isProtected[size] = false;
                size++;
            }
        }

        boolean has(int place) {
            return place >= 0 && place < size;
        }

        void removeAt(int gone) {
            if (!has(gone)) {
                return;
            }
            for (int place = gone + 1; place < size; place++) {
                numbers[place - 1] = numbers[place];
                cameAt[place - 1] = cameAt[place];
                readyFrom[place - 1] = readyFrom[place];
                isProtected[place - 1] = isProtected[place];
            }
            size--;
        }

        int placeOf(int number) {
            for (int place = 0; place < size; place++) {
                if (numbers[place] == number) {
                    return place;
                }
            }
            return NONE;
        }

        boolean isReady(int place, int time) {
            return readyFrom[place] <= time;
        }

        int countReady(int time) {
            int ready = 0;
            for (int place = 0; place < size; place++) {
                if (isReady(place, time)) {
                    ready++;
                }
            }
            return ready;
        }

        int countProtected() {
            int found = 0;
            for (int place = 0; place < size; place++) {
                if (isProtected[place]) {
                    found++;
                }
            }
            return found;
        }

        long sumOfAges(int time) {
            long sum = 0;
            for (int place = 0; place < size; place++) {
                sum += time - cameAt[place];
            }
            return sum;
        }

        /** The place of the member that is dropped first by this rule. */
        int nextToGo(int rule) {
            int found = NONE;
            for (int place = 0; place < size; place++) {
                if (!isProtected[place] && (found == NONE || goesBefore(place, found, rule))) {
                    found = place;
                }
            }
            return found;
        }

        // The later place has the greater number.
        private boolean goesBefore(int later, int earlier, int rule) {
            if (rule == COLD) {
                return readyFrom[later] >= readyFrom[earlier];
            }
            return rule == NEWEST;
        }
    }

    /** What a pool has summed up and counted since the time 0. */
    private static final class Tally {
        long served;
        long missed;
        long cost;
        long powers;
        long errorSum;
        int errors;
        int greatestDemand;
        int missRow;
        int longestMissRow;
        final int[] decided = new int[KINDS_OF_DECISIONS];

        void begin() {
            served = 0;
            missed = 0;
            cost = 0;
            powers = 0;
            errorSum = 0;
            errors = 0;
            greatestDemand = 0;
            missRow = 0;
            longestMissRow = 0;
            Arrays.fill(decided, 0);
        }

        void copyFrom(Tally other) {
            served = other.served;
            missed = other.missed;
            cost = other.cost;
            powers = other.powers;
            errorSum = other.errorSum;
            errors = other.errors;
            greatestDemand = other.greatestDemand;
            missRow = other.missRow;
            longestMissRow = other.longestMissRow;
            System.arraycopy(other.decided, 0, decided, 0, KINDS_OF_DECISIONS);
        }

        void addTick(int demand, int power, int cheapest, int fine) {
            int lacking = Math.max(0, demand - power);
            served += demand - lacking;
            missed += lacking;
            cost += cheapest + fine * lacking;
            powers += power;
            greatestDemand = Math.max(greatestDemand, demand);
            missRow = lacking > 0 ? missRow + 1 : 0;
            longestMissRow = Math.max(longestMissRow, missRow);
        }

        void addError(int error) {
            errorSum += error;
            errors++;
        }

        void addDecision(int decision) {
            if (decision >= 0 && decision < KINDS_OF_DECISIONS) {
                decided[decision]++;
            }
        }
    }

    /** A pool with its members; what it lacks to decide alone is numbers for new members. */
    private static final class Pool {
        final Settings settings = new Settings();
        final Members members = new Members();
        final Tally tally = new Tally();
        // The demand of the tick t is at t modulo the length.
        final int[] demands = new int[KEPT_DEMANDS];
        int demandCount;
        // The forecast for t is at t modulo the length, which is enough as it is made at most that long before.
        final int[] forecasts = new int[MOST_LEAD];
        int pushed;
        int forecast;
        int wanted;
        int decision;
        int grewAt;
        int movedAt;
        boolean paused;

        void begin(int min, int max, int cap) {
            settings.begin(min, max, cap);
            members.size = 0;
            tally.begin();
            demandCount = 0;
            Arrays.fill(forecasts, NONE);
            pushed = 0;
            forecast = NONE;
            wanted = NONE;
            decision = NONE;
            grewAt = NEVER;
            movedAt = NEVER;
            paused = false;
        }

        void copyFrom(Pool other) {
            settings.copyFrom(other.settings);
            members.copyFrom(other.members);
            tally.copyFrom(other.tally);
            System.arraycopy(other.demands, 0, demands, 0, KEPT_DEMANDS);
            demandCount = other.demandCount;
            System.arraycopy(other.forecasts, 0, forecasts, 0, MOST_LEAD);
            pushed = other.pushed;
            forecast = other.forecast;
            wanted = other.wanted;
            decision = other.decision;
            grewAt = other.grewAt;
            movedAt = other.movedAt;
            paused = other.paused;
        }

        int powerAt(int time) {
            return settings.cap * members.countReady(time);
        }

        int demandAhead(int time, int ahead) {
            return settings.loadAt(time + ahead) + (ahead == 0 ? pushed : 0);
        }

        int keptDemands() {
            return Math.min(KEPT_DEMANDS, demandCount);
        }

        /** The demand so many ticks before the latest one; 0 if none is kept. */
        int demandBack(int back) {
            if (back < 0 || back >= demandCount || back >= KEPT_DEMANDS) {
                return 0;
            }
            return demands[(demandCount - 1 - back) % KEPT_DEMANDS];
        }

        int windowLength() {
            return Math.min(settings.window, demandCount);
        }

        int windowSum() {
            int sum = 0;
            int count = windowLength();
            for (int back = 0; back < count; back++) {
                sum += demandBack(back);
            }
            return sum;
        }

        boolean canSpare(int place) {
            return members.size > settings.min && members.has(place) && !members.isProtected[place];
        }

        void meetDemand(int time) {
            int demand = demandAhead(time, 0);
            pushed = 0;
            demands[Math.floorMod(demandCount, KEPT_DEMANDS)] = demand;
            demandCount++;
            tally.addTick(demand, powerAt(time), settings.price * members.size, settings.fine);
        }

        void lookAhead(int time) {
            int made = forecasts[Math.floorMod(time, MOST_LEAD)];
            if (made >= 0) {
                tally.addError(Math.abs(made - demandBack(0)));
            }
            switch (settings.policy) {
                case TREND:
                    forecast = forecastByTrend();
                    break;
                case SEASON:
                    forecast = forecastBySeason();
                    break;
                default:
                    forecast = dividedUp(windowSum(), windowLength());
                    break;
            }
            wanted = settings.sizeFor(forecast);
            forecasts[Math.floorMod(time + settings.lead, MOST_LEAD)] = forecast;
        }

        private int forecastByTrend() {
            int latest = demandBack(0);
            int first = demandBack(windowLength() - 1);
            int steps = Math.max(1, windowLength() - 1);
            // The quotient is rounded towards 0, not the whole forecast.
            return Math.max(0, latest + (latest - first) * settings.lead / steps);
        }

        private int forecastBySeason() {
            int periods = dividedUp(settings.lead, settings.period);
            int back = periods * settings.period - settings.lead;
            return demandBack(back < demandCount ? back : 0);
        }

        void decide(int time) {
            decision = decisionAt(time);
            tally.addDecision(decision);
            if (decision == GROWS) {
                grewAt = time;
            }
            if (decision == GROWS || decision == SHRINKS) {
                movedAt = time;
            }
        }

        private int decisionAt(int time) {
            if (paused) {
                return PAUSED;
            }
            if (wanted == members.size) {
                return STAYS;
            }
            if (wanted > members.size) {
                return time - grewAt < settings.coolUp ? COOLS : GROWS;
            }
            if (time - movedAt < settings.coolDown) {
                return COOLS;
            }
            return members.nextToGo(settings.rule) < 0 ? ALL_PROTECTED : SHRINKS;
        }

        int percentUsed(int time) {
            if (demandCount == 0) {
                return 0;
            }
            int power = powerAt(time);
            int most = windowLength() * power;
            if (most <= 0) {
                return MOST_MEASURE;
            }
            return Math.min(MOST_MEASURE, 100 * windowSum() / most);
        }

        int periodThatRepeatsBest() {
            int best = NONE;
            double least = 0.0;
            for (int period = LEAST_PERIOD; period <= MOST_PERIOD; period++) {
                int pairs = keptDemands() - period;
                if (pairs > 0) {
                    double mean = (double) sumOfDifferences(period) / (double) pairs;
                    if (best == NONE || mean < least) {
                        best = period;
                        least = mean;
                    }
                }
            }
            return best;
        }

        private int sumOfDifferences(int apart) {
            int sum = 0;
            for (int back = 0; back + apart < keptDemands(); back++) {
                sum += Math.abs(demandBack(back) - demandBack(back + apart));
            }
            return sum;
        }

        int countDemands(int low, int high) {
            int found = 0;
            for (int back = 0; back < keptDemands(); back++) {
                int demand = demandBack(back);
                if (low <= demand && demand <= high) {
                    found++;
                }
            }
            return found;
        }

        // In ascending order a demand takes the indices from the number of smaller ones on.
        int middleDemand() {
            int middle = (keptDemands() - 1) / 2;
            for (int back = 0; back < keptDemands(); back++) {
                int demand = demandBack(back);
                if (countDemands(0, demand - 1) <= middle && middle < countDemands(0, demand)) {
                    return demand;
                }
            }
            return 0;
        }
    }

    /** The latest events of all pools. */
    private static final class Events {
        // The event with the index i from the first one on is at i modulo the length.
        final int[] times = new int[KEPT_EVENTS];
        final int[] kinds = new int[KEPT_EVENTS];
        final int[] pools = new int[KEPT_EVENTS];
        final int[] members = new int[KEPT_EVENTS];
        int total;

        void copyFrom(Events other) {
            System.arraycopy(other.times, 0, times, 0, KEPT_EVENTS);
            System.arraycopy(other.kinds, 0, kinds, 0, KEPT_EVENTS);
            System.arraycopy(other.pools, 0, pools, 0, KEPT_EVENTS);
            System.arraycopy(other.members, 0, members, 0, KEPT_EVENTS);
            total = other.total;
        }

        void add(int time, int kind, int pool, int member) {
            int place = Math.floorMod(total, KEPT_EVENTS);
            times[place] = time;
            kinds[place] = kind;
            pools[place] = pool;
            members[place] = member;
            total++;
        }

        int kept() {
            return Math.min(KEPT_EVENTS, total);
        }

        int part(int back, int what) {
            int place = Math.floorMod(total - 1 - back, KEPT_EVENTS);
            switch (what) {
                case 0: return times[place];
                case 1: return kinds[place];
                case 2: return pools[place];
                default: return members[place];
            }
        }
    }

    /** Everything that is undone and saved. */
    private static final class State {
        final Pool[] pools = new Pool[MOST_POOLS];
        int poolCount;
        int time;
        int nextMember;
        final Events events = new Events();

        State() {
            for (int i = 0; i < MOST_POOLS; i++) {
                pools[i] = new Pool();
            }
        }

        void clear() {
            poolCount = 0;
            time = 0;
            nextMember = 0;
            events.total = 0;
        }

        void copyFrom(State other) {
            poolCount = other.poolCount;
            for (int i = 0; i < poolCount; i++) {
                pools[i].copyFrom(other.pools[i]);
            }
            time = other.time;
            nextMember = other.nextMember;
            events.copyFrom(other.events);
        }

        void addPool(int min, int max, int cap) {
            if (poolCount >= MOST_POOLS) {
                return;
            }
            Pool added = pools[poolCount];
            poolCount++;
            added.begin(min, max, cap);
            for (int i = 0; i < min; i++) {
                added.members.add(nextMember, 0, 0);
                nextMember++;
            }
        }

        int countMembers() {
            int sum = 0;
            for (int i = 0; i < poolCount; i++) {
                sum += pools[i].members.size;
            }
            return sum;
        }

        /** The pool of a member, NONE if there is no such member. */
        int homeOf(int member) {
            for (int i = 0; i < poolCount; i++) {
                if (pools[i].members.placeOf(member) >= 0) {
                    return i;
                }
            }
            return NONE;
        }

        /** The place of a member in this pool, NONE if it is not there. */
        int placeIn(int pool, int member) {
            return pool < 0 || pool >= poolCount ? NONE : pools[pool].members.placeOf(member);
        }

        int addMember(int pool, int readyFrom) {
            int number = nextMember;
            nextMember++;
            pools[pool].members.add(number, time, readyFrom);
            events.add(time, CAME, pool, number);
            return number;
        }

        void removeMember(int pool, int place) {
            Members members = pools[pool].members;
            if (members.has(place)) {
                events.add(time, WENT, pool, members.numbers[place]);
                members.removeAt(place);
            }
        }

        void tickAll() {
            for (int i = 0; i < poolCount; i++) {
                passPhases(i);
            }
            time++;
        }

        /** The phases of a tick for one pool; the time stays. */
        void passPhases(int number) {
            Pool pool = pools[number];
            pool.meetDemand(time);
            pool.lookAhead(time);
            pool.decide(time);
            if (pool.decision == GROWS) {
                addLacking(number);
            } else if (pool.decision == SHRINKS) {
                removeTooMany(number);
            }
        }

        private void addLacking(int number) {
            Pool pool = pools[number];
            int many = Math.min(pool.settings.up, pool.wanted - pool.members.size);
            for (int i = 0; i < many; i++) {
                addMember(number, time + 1 + pool.settings.warm);
            }
        }

        private void removeTooMany(int number) {
            Pool pool = pools[number];
            int many = Math.min(pool.settings.down, pool.members.size - pool.wanted);
            for (int i = 0; i < many; i++) {
                int place = pool.members.nextToGo(pool.settings.rule);
                if (place < 0) {
                    return;
                }
                removeMember(number, place);
            }
        }
    }

    /** The bytes that were printed last. */
    private static final class Output {
        final byte[] bytes = new byte[OUTPUT_BYTES];
        int length;

        void addByte(int value) {
            if (length < OUTPUT_BYTES) {
                bytes[length] = (byte) value;
                length++;
            }
        }

        void addNumber(int number) {
            int unit = 1;
            for (int digits = 1; digits < 10 && number / unit >= 10; digits++) {
                unit *= 10;
            }
            for (; unit > 0; unit /= 10) {
                addByte('0' + number / unit % 10);
            }
        }
    }

    /** Reads a setup text up to its first error. */
    private static final class SetupReader {
        private static final int END = 0;
        private static final int WORD = 1;
        private static final int NUMBER = 2;
        private static final int SEMICOLON = 3;
        private static final int BLANK = 4;
        private static final int NO_TOKEN = 5;
        private static final int MOST_DIGITS = 3;

        private static final int POOL = 0;
        private static final int STEP = 1;
        private static final int COOL = 2;
        private static final int TARGET = 3;
        private static final int WARM = 4;
        private static final int WINDOW = 5;
        private static final int LEAD = 6;
        private static final int POLICY = 7;
        private static final int DROP = 8;
        private static final int COST = 9;
        private static final int LOAD = 10;
        private static final int PROTECT = 11;

        private byte[] text = new byte[0];
        private int length;
        private int kind;
        private int tokenAt;
        private int tokenEnd;
        private int value;
        // One bit for each statement that the pool told last has.
        private int told;
        int error;
        int errorAt;

        void readSetup(byte[] bytes, int count, State read) {
            text = bytes;
            length = Math.min(count, bytes.length);
            tokenEnd = 0;
            error = NO_ERROR;
            errorAt = NONE;
            read.clear();
            for (int statements = 0; statements <= length; statements++) {
                readToken();
                if (kind == END) {
                    break;
                }
                readStatement(read);
                if (error != NO_ERROR) {
                    return;
                }
            }
            if (read.poolCount == 0) {
                fail(NO_POOL);
            }
        }

        // Errors are found from left to right, so only the first one counts.
        private void fail(int code) {
            if (error == NO_ERROR) {
                error = code;
                errorAt = tokenAt;
            }
        }

        private void readStatement(State read) {
            int statement = statementOfWord();
            if (statement == POOL) {
                readPool(read);
                return;
            }
            if (statement == NONE || read.poolCount <= 0) {
                fail(SYNTAX);
                return;
            }
            if (statement != PROTECT && (told & 1 << statement) != 0) {
                fail(TWICE);
                return;
            }
            told |= 1 << statement;
            Pool pool = read.pools[read.poolCount - 1];
            switch (statement) {
                case LOAD:
                    readLoads(pool.settings);
                    break;
                case PROTECT:
                    readProtect(pool);
                    break;
                case POLICY:
                    readPolicy(pool.settings);
                    break;
                case DROP:
                    readRule(pool.settings);
                    break;
                default:
                    readSettings(statement, pool.settings);
                    break;
            }
        }

        private void readPool(State read) {
            if (read.poolCount >= MOST_POOLS) {
                fail(TOO_MANY);
                return;
            }
            int min = readNumber(0, MOST_MEMBERS);
            int max = readNumber(Math.max(1, min), MOST_MEMBERS);
            int cap = readNumber(1, MOST_CAP);
            readSemicolon();
            if (error == NO_ERROR) {
                read.addPool(min, max, cap);
                told = 0;
            }
        }

        private void readSettings(int statement, Settings settings) {
            switch (statement) {
                case STEP:
                    settings.up = readNumber(1, MOST_STEP);
                    settings.down = readNumber(1, MOST_STEP);
                    break;
                case COOL:
                    settings.coolUp = readNumber(0, MOST_COOL);
                    settings.coolDown = readNumber(0, MOST_COOL);
                    break;
                case TARGET:
                    settings.target = readNumber(LEAST_TARGET, MOST_TARGET);
                    break;
                case WARM:
                    settings.warm = readNumber(0, MOST_WARM);
                    break;
                case WINDOW:
                    settings.window = readNumber(1, MOST_WINDOW);
                    break;
                case LEAD:
                    settings.lead = readNumber(1, MOST_LEAD);
                    break;
                default:
                    settings.price = readNumber(0, MOST_MONEY);
                    settings.fine = readNumber(0, MOST_MONEY);
                    break;
            }
            readSemicolon();
        }

        private void readPolicy(Settings settings) {
            readToken();
            if (isWord("watch")) {
                settings.policy = WATCH;
            } else if (isWord("trend")) {
                settings.policy = TREND;
            } else if (isWord("season")) {
                settings.policy = SEASON;
                settings.period = readNumber(LEAST_PERIOD, MOST_PERIOD);
            } else {
                fail(SYNTAX);
            }
            readSemicolon();
        }

        private void readRule(Settings settings) {
            readToken();
            if (isWord("newest")) {
                settings.rule = NEWEST;
            } else if (isWord("oldest")) {
                settings.rule = OLDEST;
            } else if (isWord("cold")) {
                settings.rule = COLD;
            } else {
                fail(SYNTAX);
            }
            readSemicolon();
        }

        private void readLoads(Settings settings) {
            settings.loads[0] = readNumber(0, MOST_LOAD);
            settings.loadCount = 1;
            for (int i = 1; i <= MOST_LOADS && error == NO_ERROR; i++) {
                readToken();
                if (kind == SEMICOLON) {
                    return;
                }
                if (i == MOST_LOADS) {
                    fail(SYNTAX);
                } else {
                    settings.loads[i] = numberOfToken(0, MOST_LOAD);
                    settings.loadCount = i + 1;
                }
            }
        }

        private void readProtect(Pool pool) {
            int index = readNumber(0, pool.settings.min - 1);
            if (error == NO_ERROR && index < pool.members.size) {
                if (pool.members.isProtected[index]) {
                    fail(TWICE);
                }
                pool.members.isProtected[index] = true;
            }
            readSemicolon();
        }

        private int readNumber(int least, int greatest) {
            if (error != NO_ERROR) {
                return least;
            }
            readToken();
            return numberOfToken(least, greatest);
        }

        private int numberOfToken(int least, int greatest) {
            if (kind != NUMBER) {
                fail(SYNTAX);
                return least;
            }
            if (value < least || value > greatest) {
                fail(OUT_OF_RANGE);
                return least;
            }
            return value;
        }

        private void readSemicolon() {
            if (error != NO_ERROR) {
                return;
            }
            readToken();
            if (kind != SEMICOLON) {
                fail(SYNTAX);
            }
        }

        private int statementOfWord() {
            if (isWord("pool")) return POOL;
            if (isWord("step")) return STEP;
            if (isWord("cool")) return COOL;
            if (isWord("target")) return TARGET;
            if (isWord("warm")) return WARM;
            if (isWord("window")) return WINDOW;
            if (isWord("lead")) return LEAD;
            if (isWord("policy")) return POLICY;
            if (isWord("drop")) return DROP;
            if (isWord("cost")) return COST;
            if (isWord("load")) return LOAD;
            if (isWord("protect")) return PROTECT;
            return NONE;
        }

        private boolean isWord(String word) {
            if (kind != WORD || tokenEnd - tokenAt != word.length()) {
                return false;
            }
            for (int i = 0; i < word.length(); i++) {
                if (text[tokenAt + i] != word.charAt(i)) {
                    return false;
                }
            }
            return true;
        }

        private void readToken() {
            tokenAt = tokenEnd;
            while (tokenAt < length && kindAt(tokenAt) == BLANK) {
                tokenAt++;
            }
            kind = kindAt(tokenAt);
            tokenEnd = kind == END ? tokenAt : tokenAt + 1;
            if (kind == WORD || kind == NUMBER) {
                while (tokenEnd < length && kindAt(tokenEnd) == kind) {
                    tokenEnd++;
                }
            }
            if (kind == NUMBER) {
                readValue();
            }
        }

        private void readValue() {
            if (tokenEnd - tokenAt > MOST_DIGITS) {
                kind = NO_TOKEN;
                return;
            }
            value = 0;
            for (int i = tokenAt; i < tokenEnd; i++) {
                value = 10 * value + text[i] - '0';
            }
        }

        private int kindAt(int index) {
            if (index < 0 || index >= length) {
                return END;
            }
            int sign = text[index];
            if (sign >= 'a' && sign <= 'z') {
                return WORD;
            }
            if (sign >= '0' && sign <= '9') {
                return NUMBER;
            }
            if (sign == ' ' || sign == '\n') {
                return BLANK;
            }
            return sign == ';' ? SEMICOLON : NO_TOKEN;
        }
    }
}
