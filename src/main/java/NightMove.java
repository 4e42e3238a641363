/**
 * A house that moves in a night: what goes with which convoy, when the convoys are there, how far the stages
 * of the move are, and a rule that says whether it goes on.
 */
public final class NightMove {
    public static final int NONE = -1;

    private static final int NO_SUCH_THING = -2;
    private static final int LAST_MINUTE = 2000;
    private static final int LAST_MINUTE_ASKED = 5000;
    private static final int LONGEST_TICK = 500;
    private static final int FIRST_END = 480;

    private final Goods goods;
    private final Convoys convoys;
    private final Sharing sharing;
    private final Traffic traffic;
    private final Stages stages;
    private final Faults faults;
    private final Tape tape;
    private final Tape ruleText;
    private final Reader reader;
    private int now;
    private int moveEnd;
    private boolean settled;

    public NightMove() {
        Goods newGoods = new Goods();
        Convoys newConvoys = new Convoys();
        goods = newGoods;
        convoys = newConvoys;
        sharing = new Sharing(newGoods, newConvoys);
        traffic = new Traffic(newConvoys);
        stages = new Stages();
        faults = new Faults();
        tape = new Tape();
        ruleText = new Tape();
        reader = new Reader();
        now = 0;
        moveEnd = FIRST_END;
        settled = false;
    }

    public int thing(int last, int first, int load, int cost) {
        if (settled || goods.isFull() || !within(last, 0, LAST_MINUTE) || !within(first, last, LAST_MINUTE)) {
            return NONE;
        }
        if (!within(load, 1, Goods.MOST_LOAD) || !within(cost, 0, Goods.MOST_COST)) {
            return NONE;
        }
        sharing.forget();
        return goods.add(last, first, load, cost);
    }

    public int convoy(int leaves, int room, int limit) {
        if (settled || convoys.isFull() || !within(leaves, 0, LAST_MINUTE)) {
            return NONE;
        }
        if (!within(room, 1, Convoys.MOST_ROOM) || !within(limit, 1, Convoys.MOST_LIMIT)) {
            return NONE;
        }
        sharing.forget();
        return convoys.add(leaves, room, limit);
    }

    public boolean set(int way, int headway, int end) {
        if (settled || !within(way, Convoys.LEAST_WAY, Convoys.MOST_WAY)) {
            return false;
        }
        if (!within(headway, 0, Convoys.MOST_HEADWAY) || !within(end, 0, LAST_MINUTE)) {
            return false;
        }
        sharing.forget();
        convoys.way = way;
        convoys.headway = headway;
        moveEnd = end;
        return true;
    }

    public int least() {
        sharing.workOut();
        return sharing.doubledCost();
    }

    public int share(int thing) {
        if (!isThing(thing)) {
            return NO_SUCH_THING;
        }
        sharing.workOut();
        return sharing.convoyOf(thing);
    }

    public int settle() {
        if (settled) {
            return NONE;
        }
        settled = true;
        sharing.workOut();
        return sharing.doubledCost();
    }

    public boolean late(int convoy, int minutes) {
        if (!settled || !isConvoy(convoy) || !within(minutes, 1, Traffic.MOST_MINUTES_LATE)) {
            return false;
        }
        return traffic.delay(convoy, minutes, now);
    }

    public int road(int convoy, int q, int what) {
        if (!settled || !isConvoy(convoy) || !isKnown(q)) {
            return NONE;
        }
        traffic.foresee(q);
        switch (what) {
            case 0:
                return traffic.leaves[convoy];
            case 1:
                return traffic.bridge[convoy];
            case 2:
                return traffic.there[convoy];
            case 3:
                return Integer.bitCount(sharing.goodsOf(convoy));
            case 4:
                return goods.load[sharing.goodsOf(convoy)];
            default:
                return NONE;
        }
    }

    public int place(int thing, int minute, int q) {
        if (!settled || !isThing(thing) || !within(minute, 0, LAST_MINUTE_ASKED) || !isKnown(q)) {
            return NONE;
        }
        traffic.foresee(q);
        return traffic.placeOf(sharing.convoyOf(thing), minute);
    }

    public int lacks(int thing, int q) {
        if (!settled || !isThing(thing) || !isKnown(q)) {
            return NONE;
        }
        int convoy = sharing.convoyOf(thing);
        if (!isConvoy(convoy)) {
            return 0;
        }
        traffic.foresee(q);
        return Math.max(0, traffic.there[convoy] - goods.first[thing]);
    }

    public int many(int place, int minute, int q) {
        if (!settled || !within(place, Traffic.HERE, Traffic.DOUBLED)) {
            return NONE;
        }
        if (!within(minute, 0, LAST_MINUTE_ASKED) || !isKnown(q)) {
            return NONE;
        }
        traffic.foresee(q);
        int found = 0;
        for (int thing = 0; thing < goods.told; thing++) {
            if (traffic.placeOf(sharing.convoyOf(thing), minute) == place) {
                found++;
            }
        }
        return found;
    }

    public int stage(int minutes, int needs, int back, boolean point) {
        if (!within(minutes, 1, Stages.MOST_MINUTES) || !within(back, 0, Stages.MOST_MINUTES)) {
            return NONE;
        }
        return stages.add(minutes, needs, back, point);
    }

    public boolean begin(int stage) {
        return isStage(stage) && stages.start(stage, now);
    }

    public boolean fail(int stage) {
        return isStage(stage) && stages.takeBack(stage, now);
    }

    public int tick(int n) {
        if (!within(n, 0, LONGEST_TICK) || now + n > LAST_MINUTE) {
            return NONE;
        }
        now += n;
        stages.moveTo(now);
        return now;
    }

    public int told(int stage, int what) {
        if (!isStage(stage)) {
            return NONE;
        }
        switch (what) {
            case 0:
                return stages.state[stage];
            case 1:
                return stages.began[stage];
            case 2:
                return stages.doneMinute(stage);
            case 3:
                return stages.safe[stage] ? 1 : 0;
            default:
                return NONE;
        }
    }

    public int back() {
        return stages.lastBegun(stages.allThat(Stages.GOES_BACK));
    }

    public int whole() {
        return stages.backUntil(now);
    }

    public int ready() {
        return stages.allDoneBy(now);
    }

    public int find() {
        return faults.add();
    }

    public boolean close(int fault) {
        return faults.mend(fault);
    }

    public int feed(int bytes) {
        return tape.add(bytes);
    }

    public boolean end(int n) {
        return tape.cut(n);
    }

    public int fault() {
        return reader.faultIn(tape);
    }

    public boolean rule() {
        if (reader.faultIn(tape) != NONE) {
            return false;
        }
        ruleText.copy(tape);
        tape.cut(0);
        return true;
    }

    public int go() {
        if (ruleText.length == 0) {
            return 1;
        }
        reader.minutesLeft = Math.max(0, moveEnd - now);
        reader.minutesToReady = stages.allDoneBy(now) - now;
        reader.openFaults = faults.open;
        reader.doneStages = Integer.bitCount(stages.allThat(Stages.DONE));
        return reader.holds(ruleText) ? 1 : 0;
    }

    public int count(int what) {
        switch (what) {
            case 0:
                return now;
            case 1:
                return goods.told;
            case 2:
                return convoys.told;
            case 3:
                return settled ? 1 : 0;
            case 4:
                return stages.told;
            case 5:
                return Integer.bitCount(stages.allThat(Stages.DONE));
            case 6:
                return stages.safeOnes();
            case 7:
                return faults.open;
            case 8:
                return tape.length;
            case 9:
                return stages.failures;
            default:
                return NONE;
        }
    }

    private boolean isThing(int thing) {
        return within(thing, 0, goods.told - 1);
    }

    private boolean isConvoy(int convoy) {
        return within(convoy, 0, convoys.told - 1);
    }

    private boolean isStage(int stage) {
        return within(stage, 0, stages.told - 1);
    }

    private boolean isKnown(int q) {
        return within(q, 0, now);
    }

    private static boolean within(int number, int low, int high) {
        return number >= low && number <= high;
    }

    /**
     * The THINGS. Sums over things are kept for every set of them (a bit each), so that a sharing is found
     * without adding them up again and again.
     */
    private static final class Goods {
        static final int MOST = 10;
        static final int SETS = 1 << MOST;
        static final int MOST_LOAD = 40;
        static final int MOST_COST = 1000;

        final int[] last = new int[MOST];
        final int[] first = new int[MOST];
        final int[] load = new int[SETS];
        final int[] cost = new int[SETS];
        int told = 0;

        boolean isFull() {
            return told >= MOST;
        }

        int add(int lastHere, int firstThere, int newLoad, int newCost) {
            if (isFull()) {
                return NONE;
            }
            last[told] = lastHere;
            first[told] = firstThere;
            int bit = 1 << told;
            for (int others = 0; others < bit; others++) {
                load[others | bit] = load[others] + newLoad;
                cost[others | bit] = cost[others] + newCost;
            }
            told++;
            return told - 1;
        }

        int all() {
            return (1 << told) - 1;
        }

        int thatCanGo(int leaves, int arrives) {
            int able = 0;
            for (int thing = 0; thing < told; thing++) {
                if (last[thing] <= leaves && arrives <= first[thing]) {
                    able |= 1 << thing;
                }
            }
            return able;
        }
    }

    /** The CONVOYS as told at first. */
    private static final class Convoys {
        static final int MOST = 4;
        static final int MOST_ROOM = 10;
        static final int MOST_LIMIT = 200;
        static final int LEAST_WAY = 2;
        static final int MOST_WAY = 120;
        static final int MOST_HEADWAY = 30;

        final int[] leaves = new int[MOST];
        final int[] room = new int[MOST];
        final int[] limit = new int[MOST];
        final int[] order = new int[MOST];
        int told = 0;
        int way = 40;
        int headway = 3;

        boolean isFull() {
            return told >= MOST;
        }

        int add(int newLeaves, int newRoom, int newLimit) {
            if (isFull()) {
                return NONE;
            }
            leaves[told] = newLeaves;
            room[told] = newRoom;
            limit[told] = newLimit;
            putInOrder(told);
            told++;
            return told - 1;
        }

        /** Of alike ones the newest stands last, as its number is the greatest. */
        private void putInOrder(int convoy) {
            int spot = convoy;
            for (; spot > 0 && leaves[order[spot - 1]] > leaves[convoy]; spot--) {
                order[spot] = order[spot - 1];
            }
            order[spot] = convoy;
        }
    }

    /**
     * The BEST SHARING. A sharing's price is one number: the cost of what is doubled, and below it three bits
     * a thing, thing 0 the highest, that tell its convoy (4: doubled). So the least price is the best sharing,
     * and a price is a sum over things, which lets the convoys be loaded one after the other.
     */
    private static final class Sharing {
        static final int DOUBLED_DIGIT = 4;
        static final int DIGIT_BITS = 3;
        static final int DIGIT_MASK = 7;
        static final int CODE_BITS = DIGIT_BITS * Goods.MOST;
        static final long UNREACHED = 1L << 60;

        private final Goods goods;
        private final Convoys convoys;
        private final int[] code = new int[Goods.SETS];
        private final long[] price = new long[Goods.SETS];
        private long best = 0;
        private boolean known = false;

        Sharing(Goods goods, Convoys convoys) {
            this.goods = goods;
            this.convoys = convoys;
            for (int thing = 0; thing < Goods.MOST; thing++) {
                int bit = 1 << thing;
                for (int others = 0; others < bit; others++) {
                    code[others | bit] = code[others] + (1 << digitPlace(thing));
                }
            }
        }

        void forget() {
            known = false;
        }

        int doubledCost() {
            return (int) (best >> CODE_BITS);
        }

        int convoyOf(int thing) {
            int digit = (int) (best >> digitPlace(thing)) & DIGIT_MASK;
            return digit == DOUBLED_DIGIT ? NONE : digit;
        }

        int goodsOf(int convoy) {
            int found = 0;
            for (int thing = 0; thing < goods.told; thing++) {
                if (convoyOf(thing) == convoy) {
                    found |= 1 << thing;
                }
            }
            return found;
        }

        private static int digitPlace(int thing) {
            return DIGIT_BITS * (Goods.MOST - 1 - thing);
        }

        /** What was found stays good until a thing, a convoy or the way is told. */
        void workOut() {
            if (known) {
                return;
            }
            int all = goods.all();
            for (int open = 0; open <= all; open++) {
                price[open] = UNREACHED;
            }
            price[all] = 0;
            for (int convoy = 0; convoy < convoys.told; convoy++) {
                loadConvoy(convoy, all);
            }
            best = leastPrice(all);
            known = true;
        }

        /**
         * price[open] is the least for what stands in convoys so far, with the things of open still to go. A load
         * leads to a smaller open, which this walk has left behind: no convoy is loaded twice.
         */
        private void loadConvoy(int convoy, int all) {
            int leaves = convoys.leaves[convoy];
            int able = goods.thatCanGo(leaves, leaves + convoys.way);
            for (int open = 0; open <= all; open++) {
                if (price[open] < UNREACHED) {
                    tryLoads(convoy, open, open & able);
                }
            }
        }

        /** The loads fall from all that can go to the empty one, which may be the only one that fits. */
        private void tryLoads(int convoy, int open, int able) {
            long before = price[open];
            price[open] = UNREACHED;
            for (int load = able; load > 0; load = (load - 1) & able) {
                tryLoad(convoy, open, able, load, before);
            }
            tryLoad(convoy, open, able, 0, before);
        }

        /** Only a full load is taken: one more thing in an earlier convoy always makes the price less. */
        private void tryLoad(int convoy, int open, int able, int load, long before) {
            if (fits(convoy, load) && !fitsOneMore(convoy, load, able)) {
                int left = open ^ load;
                price[left] = Math.min(price[left], before + (long) convoy * code[load]);
            }
        }

        private boolean fits(int convoy, int load) {
            return Integer.bitCount(load) <= convoys.room[convoy] && goods.load[load] <= convoys.limit[convoy];
        }

        private boolean fitsOneMore(int convoy, int load, int able) {
            if (load == able || Integer.bitCount(load) >= convoys.room[convoy]) {
                return false;
            }
            for (int thing = 0; thing < goods.told; thing++) {
                int bit = 1 << thing;
                if ((able & ~load & bit) != 0 && fits(convoy, load | bit)) {
                    return true;
                }
            }
            return false;
        }

        private long leastPrice(int all) {
            long least = UNREACHED;
            for (int open = 0; open <= all; open++) {
                if (price[open] < UNREACHED) {
                    long doubled = ((long) goods.cost[open] << CODE_BITS) + (long) DOUBLED_DIGIT * code[open];
                    least = Math.min(least, price[open] + doubled);
                }
            }
            return least;
        }
    }

    /** The CONVOYS as they run, late ones among them; leaves, bridge and there are as foreseen last. */
    private static final class Traffic {
        static final int HERE = 0;
        static final int ON_THE_ROAD = 1;
        static final int THERE = 2;
        static final int DOUBLED = 3;
        static final int MOST_LATES = 60;
        static final int MOST_MINUTES_LATE = 200;

        final int[] leaves = new int[Convoys.MOST];
        final int[] bridge = new int[Convoys.MOST];
        final int[] there = new int[Convoys.MOST];
        private final Convoys convoys;
        private final int[] lateConvoy = new int[MOST_LATES];
        private final int[] lateMinutes = new int[MOST_LATES];
        private final int[] lateTold = new int[MOST_LATES];
        private int lates = 0;

        Traffic(Convoys convoys) {
            this.convoys = convoys;
        }

        boolean delay(int convoy, int minutes, int now) {
            foresee(now);
            if (lates >= MOST_LATES || leaves[convoy] <= now) {
                return false;
            }
            lateConvoy[lates] = convoy;
            lateMinutes[lates] = minutes;
            lateTold[lates] = now;
            lates++;
            return true;
        }

        void foresee(int q) {
            for (int convoy = 0; convoy < convoys.told; convoy++) {
                leaves[convoy] = convoys.leaves[convoy];
            }
            for (int late = 0; late < lates; late++) {
                if (lateTold[late] <= q) {
                    leaves[lateConvoy[late]] += lateMinutes[late];
                }
            }
            crossBridge();
        }

        private void crossBridge() {
            int half = convoys.way / 2;
            int free = 0;
            for (int spot = 0; spot < convoys.told; spot++) {
                int convoy = convoys.order[spot];
                bridge[convoy] = Math.max(leaves[convoy] + half, free);
                there[convoy] = bridge[convoy] + convoys.way - half;
                free = bridge[convoy] + convoys.headway;
            }
        }

        int placeOf(int convoy, int minute) {
            if (!within(convoy, 0, convoys.told - 1)) {
                return DOUBLED;
            }
            if (minute < leaves[convoy]) {
                return HERE;
            }
            return minute < there[convoy] ? ON_THE_ROAD : THERE;
        }
    }

    /** The STAGES; sets of them are bits. */
    private static final class Stages {
        static final int MOST = 10;
        static final int MOST_MINUTES = 60;
        static final int NOT_BEGUN = 0;
        static final int RUNS = 1;
        static final int DONE = 2;
        static final int GOES_BACK = 3;

        final int[] state = new int[MOST];
        final int[] began = new int[MOST];
        final boolean[] safe = new boolean[MOST];
        int told = 0;
        int failures = 0;
        private final int[] minutes = new int[MOST];
        private final int[] needs = new int[MOST];
        private final int[] backMinutes = new int[MOST];
        private final boolean[] point = new boolean[MOST];
        private final int[] backEnd = new int[MOST];
        private final int[] couldBeDone = new int[MOST];

        int add(int newMinutes, int newNeeds, int newBack, boolean newPoint) {
            if (told >= MOST || newNeeds >>> told != 0 || someHasBegun()) {
                return NONE;
            }
            minutes[told] = newMinutes;
            needs[told] = newNeeds;
            backMinutes[told] = newBack;
            point[told] = newPoint;
            told++;
            clear(told - 1);
            return told - 1;
        }

        private boolean someHasBegun() {
            return allThat(NOT_BEGUN) != (1 << told) - 1;
        }

        private void clear(int stage) {
            state[stage] = NOT_BEGUN;
            began[stage] = NONE;
            backEnd[stage] = NONE;
            safe[stage] = false;
        }

        int allThat(int wanted) {
            int found = 0;
            for (int stage = 0; stage < told; stage++) {
                if (state[stage] == wanted) {
                    found |= 1 << stage;
                }
            }
            return found;
        }

        int safeOnes() {
            int found = 0;
            for (int stage = 0; stage < told; stage++) {
                if (safe[stage]) {
                    found++;
                }
            }
            return found;
        }

        boolean start(int stage, int now) {
            if (state[stage] != NOT_BEGUN || allThat(GOES_BACK) != 0 || (needs[stage] & ~allThat(DONE)) != 0) {
                return false;
            }
            state[stage] = RUNS;
            began[stage] = now;
            return true;
        }

        int doneMinute(int stage) {
            return state[stage] == RUNS || state[stage] == DONE ? began[stage] + minutes[stage] : NONE;
        }

        void moveTo(int now) {
            makeSafe(finishRunning(now));
            clearTakenBack(now);
        }

        /** The minute at which the last POINT that is done by this was done; NONE, if none was. */
        private int finishRunning(int now) {
            int lastPoint = NONE;
            for (int stage = 0; stage < told; stage++) {
                int due = doneMinute(stage);
                if (state[stage] == RUNS && due <= now) {
                    state[stage] = DONE;
                    lastPoint = point[stage] ? Math.max(lastPoint, due) : lastPoint;
                }
            }
            return lastPoint;
        }

        private void makeSafe(int lastPoint) {
            for (int stage = 0; stage < told; stage++) {
                if (state[stage] == DONE && doneMinute(stage) <= lastPoint) {
                    safe[stage] = true;
                }
            }
        }

        private void clearTakenBack(int now) {
            for (int stage = 0; stage < told; stage++) {
                if (state[stage] == GOES_BACK && backEnd[stage] <= now) {
                    clear(stage);
                }
            }
        }

        boolean takeBack(int failed, int now) {
            if (state[failed] != RUNS) {
                return false;
            }
            failures++;
            int waiting = allThatIsNotKept();
            int minute = now;
            for (int turn = 0; turn < MOST && waiting != 0; turn++) {
                int stage = lastBegun(waiting);
                waiting &= ~(1 << stage);
                minute += backMinutes[stage];
                state[stage] = GOES_BACK;
                backEnd[stage] = minute;
            }
            clearTakenBack(now);
            return true;
        }

        private int allThatIsNotKept() {
            int found = allThat(RUNS);
            for (int stage = 0; stage < told; stage++) {
                if (state[stage] == DONE && !safe[stage]) {
                    found |= 1 << stage;
                }
            }
            return found;
        }

        /** Of those that began at one minute the greater number; NONE of an empty set. */
        int lastBegun(int among) {
            int found = NONE;
            for (int stage = 0; stage < told; stage++) {
                boolean isAmong = (among & 1 << stage) != 0;
                if (isAmong && (found == NONE || began[stage] >= began[found])) {
                    found = stage;
                }
            }
            return found;
        }

        int backUntil(int now) {
            int until = now;
            for (int stage = 0; stage < told; stage++) {
                if (state[stage] == GOES_BACK) {
                    until = Math.max(until, backEnd[stage]);
                }
            }
            return until;
        }

        int allDoneBy(int now) {
            int free = backUntil(now);
            int latest = now;
            for (int stage = 0; stage < told; stage++) {
                boolean stands = state[stage] == RUNS || state[stage] == DONE;
                couldBeDone[stage] = stands ? doneMinute(stage) : afterNeeds(stage, free) + minutes[stage];
                latest = Math.max(latest, couldBeDone[stage]);
            }
            return latest;
        }

        private int afterNeeds(int stage, int free) {
            int start = free;
            for (int need = 0; need < stage; need++) {
                if ((needs[stage] & 1 << need) != 0) {
                    start = Math.max(start, couldBeDone[need]);
                }
            }
            return start;
        }
    }

    /** The FAULTS that were found. */
    private static final class Faults {
        static final int MOST = 100;

        private final boolean[] closed = new boolean[MOST];
        private int found = 0;
        int open = 0;

        int add() {
            if (found >= MOST) {
                return NONE;
            }
            found++;
            open++;
            return found - 1;
        }

        boolean mend(int number) {
            if (!within(number, 0, found - 1) || closed[number]) {
                return false;
            }
            closed[number] = true;
            open--;
            return true;
        }
    }

    /** A row of bytes: the TAPE, and the RULE that came from it. */
    private static final class Tape {
        static final int MOST = 100;
        static final int TOP_SHIFT = 24;
        static final int BYTE_BITS = 8;
        static final int BYTE_MASK = 255;

        final char[] bytes = new char[MOST];
        int length = 0;

        int add(int four) {
            if (length + bytesIn(four) > MOST) {
                return NONE;
            }
            for (int shift = TOP_SHIFT; shift >= 0; shift -= BYTE_BITS) {
                int next = four >>> shift & BYTE_MASK;
                if (next != 0 && length < MOST) {
                    bytes[length] = (char) next;
                    length++;
                }
            }
            return length;
        }

        private static int bytesIn(int four) {
            int found = 0;
            for (int shift = TOP_SHIFT; shift >= 0; shift -= BYTE_BITS) {
                if ((four >>> shift & BYTE_MASK) != 0) {
                    found++;
                }
            }
            return found;
        }

        boolean cut(int n) {
            if (!within(n, 0, length)) {
                return false;
            }
            length = n;
            return true;
        }

        void copy(Tape other) {
            for (int spot = 0; spot < other.length; spot++) {
                bytes[spot] = other.bytes[spot];
            }
            length = other.length;
        }
    }

    /** Reads TESTS byte by byte: where they can not go on, and whether they hold. */
    private static final class Reader {
        static final int DEEPEST = 8;
        static final int MOST_DIGITS = 4;
        static final int UNIT = 0;
        static final int SIGN = 1;
        static final int NUMBER = 2;
        static final int MORE_DIGITS = 3;
        static final int AFTER_UNIT = 4;

        int minutesLeft = 0;
        int minutesToReady = 0;
        int openFaults = 0;
        int doneStages = 0;
        /** By depth: whether a part ahead of this one holds, and whether this part's units up to here do. */
        private final boolean[] partHolds = new boolean[DEEPEST + 1];
        private final boolean[] unitsHold = new boolean[DEEPEST + 1];
        private int depth = 0;
        private int expects = UNIT;
        private char letter = ' ';
        private char sign = ' ';
        private int number = 0;
        private int digits = 0;

        int faultIn(Tape text) {
            depth = 0;
            expects = UNIT;
            openTests();
            for (int spot = 0; spot < text.length; spot++) {
                if (!takes(text.bytes[spot])) {
                    return spot;
                }
            }
            boolean ended = expects == MORE_DIGITS || expects == AFTER_UNIT;
            return ended && depth == 0 ? NONE : text.length;
        }

        boolean holds(Tape text) {
            if (faultIn(text) != NONE) {
                return false;
            }
            if (expects == MORE_DIGITS) {
                endNumber();
            }
            return testsHold();
        }

        private boolean takes(char next) {
            if (expects == MORE_DIGITS && !isDigit(next)) {
                endNumber();
            }
            if (next == ' ') {
                return true;
            }
            switch (expects) {
                case UNIT:
                    return takesUnit(next);
                case SIGN:
                    return takesSign(next);
                case AFTER_UNIT:
                    return takesAfterUnit(next);
                default:
                    return takesDigit(next);
            }
        }

        private boolean takesUnit(char next) {
            if (next == '(' && depth < DEEPEST) {
                depth++;
                openTests();
                return true;
            }
            letter = next;
            expects = SIGN;
            return next == 'l' || next == 'n' || next == 'f' || next == 'd';
        }

        private boolean takesSign(char next) {
            sign = next;
            expects = NUMBER;
            number = 0;
            digits = 0;
            return next == '=' || next == '<' || next == '>';
        }

        private boolean takesDigit(char next) {
            if (!isDigit(next) || digits >= MOST_DIGITS) {
                return false;
            }
            number = number * 10 + (next - '0');
            digits++;
            expects = MORE_DIGITS;
            return true;
        }

        private boolean takesAfterUnit(char next) {
            if (next == ')' && depth > 0) {
                boolean inner = testsHold();
                depth--;
                endUnit(inner);
                return true;
            }
            if (next == '|') {
                partHolds[depth] = testsHold();
                unitsHold[depth] = true;
            }
            expects = UNIT;
            return next == '|' || next == '&';
        }

        private void openTests() {
            partHolds[depth] = false;
            unitsHold[depth] = true;
        }

        private boolean testsHold() {
            return partHolds[depth] || unitsHold[depth];
        }

        private void endNumber() {
            endUnit(comparisonHolds(valueOf(letter)));
        }

        private void endUnit(boolean unitHolds) {
            unitsHold[depth] = unitsHold[depth] && unitHolds;
            expects = AFTER_UNIT;
        }

        private int valueOf(char name) {
            if (name == 'l') {
                return minutesLeft;
            }
            if (name == 'n') {
                return minutesToReady;
            }
            return name == 'f' ? openFaults : doneStages;
        }

        private boolean comparisonHolds(int value) {
            if (sign == '<') {
                return value < number;
            }
            return sign == '>' ? value > number : value == number;
        }

        private static boolean isDigit(char next) {
            return next >= '0' && next <= '9';
        }
    }
}
