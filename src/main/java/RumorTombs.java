/** A village of rumors with tombstones. The document tells what each call does and answers. */
public final class RumorTombs {
    public static final int INVALID_ARGUMENT = -1000001;
    public static final int NOT_POSSIBLE = -1000002;
    public static final int LIMIT_REACHED = -1000003;
    public static final int NOT_FOUND = -1000004;

    private static final int MOST_VILLAGERS = 7;
    private static final int TOPICS = 12;
    private static final int MOST_VALUE = 99;
    private static final int MOST_TICKS = 60;
    private static final int MOST_TIME = 100000;
    private static final int FIRST_WATCH = 10;
    private static final int MOST_ROUNDS = 7;
    private static final int MOST_STATES = 4;
    private static final int MOST_SIGNS = 60;

    private static final int AWAKE = 0;
    private static final int ASLEEP = 1;
    private static final int GONE = 2;

    private static final int PLAIN = 0;
    private static final int WHISPERED = 1;
    private static final int SECRET = 2;
    private static final int TOMB = 3;

    private static final int NOBODY = -1;
    private static final int NO_ENTRY = 0;
    private static final int AUTHORS = 8;

    private static final int NO_FAULT = 0;
    private static final int FORM_FAULT = 1;
    private static final int NAME_FAULT = 2;
    private static final int OTHER_FAULT = 3;

    private final Village now = new Village();
    // What would be is tried on this copy, so that no call has to make one.
    private final Village trial = new Village();
    private final History history = new History();
    private final Orders orders = new Orders();

    public RumorTombs() {
    }

    // ---- villagers

    public int villager() {
        history.prepare(now);
        return recorded(now.addVillager());
    }

    public int sleep(int villager) {
        history.prepare(now);
        return recorded(now.fallAsleep(villager));
    }

    public int wake(int villager) {
        history.prepare(now);
        return recorded(now.wakeUp(villager));
    }

    public int leave(int villager) {
        history.prepare(now);
        return recorded(now.goAway(villager));
    }

    public int watch(int ticks) {
        history.prepare(now);
        return recorded(now.changeWatch(ticks));
    }

    public int villagerOf(int villager, int what) {
        if (!now.has(villager)) {
            return INVALID_ARGUMENT;
        }
        switch (what) {
            case 0:
                return now.states[villager];
            case 1:
                return now.clocks[villager];
            case 2:
                return now.rumorTopics(villager);
            case 3:
                return now.tombTopics(villager);
            case 4:
                return now.ghostsOf[villager];
            case 5:
                return now.isAsleep(villager) ? now.ticksAsleep(villager) : NOT_FOUND;
            default:
                return INVALID_ARGUMENT;
        }
    }

    // ---- rumors, tombs

    public int tell(int villager, int topic, int value, int kind) {
        history.prepare(now);
        return recorded(now.makeRumor(villager, topic, value, kind));
    }

    public int bury(int villager, int topic) {
        history.prepare(now);
        return recorded(now.makeTomb(villager, topic));
    }

    public int meet(int one, int other) {
        history.prepare(now);
        return recorded(now.bringTogether(one, other));
    }

    public int entryOf(int villager, int topic, int what) {
        if (!now.has(villager) || !isTopic(topic) || what < 0 || what > 7) {
            return INVALID_ARGUMENT;
        }
        int place = place(villager, topic);
        if (now.stamps[place] == NO_ENTRY) {
            return NOT_FOUND;
        }
        boolean tomb = now.isTomb(place);
        switch (what) {
            case 0:
                return tomb ? 1 : 0;
            case 1:
                return now.stamps[place] / AUTHORS;
            case 2:
                return now.author(place);
            case 3:
                return tomb ? NOT_FOUND : now.values[place];
            case 4:
                return tomb ? NOT_FOUND : now.kinds[place];
            case 5:
                return tomb ? now.made[place] : NOT_FOUND;
            case 6:
                return tomb ? now.seen[place] : NOT_FOUND;
            default:
                return tomb ? NOT_FOUND : (now.isDead(villager, topic) ? 1 : 0);
        }
    }

    public int tick(int ticks) {
        history.prepare(now);
        return recorded(now.letGoBy(ticks));
    }

    // ---- what is so, what would be

    public int newest(int topic) {
        if (!isTopic(topic)) {
            return INVALID_ARGUMENT;
        }
        int holders = now.holdersOfNewest(topic);
        return holders == 0 ? NOT_FOUND : holders;
    }

    public int unlike(int one, int other) {
        if (!now.has(one) || !now.has(other)) {
            return INVALID_ARGUMENT;
        }
        return now.unlikeTopics(one, other);
    }

    public int dead(int villager) {
        return now.has(villager) ? now.deadTopics(villager) : INVALID_ARGUMENT;
    }

    public int ghosts(int one, int other, int ticks) {
        if (!now.areTwo(one, other) || ticks < 0 || ticks > MOST_TICKS) {
            return INVALID_ARGUMENT;
        }
        if (now.states[one] == GONE || now.states[other] == GONE) {
            return NOT_POSSIBLE;
        }
        trial.copyFrom(now);
        if (ticks > 0) {
            trial.pass(ticks);
        }
        trial.talk(one, other);
        return trial.allGhosts() - now.allGhosts();
    }

    public int bestMeeting(int what) {
        if (what != 0 && what != 1) {
            return INVALID_ARGUMENT;
        }
        int pair = NOT_FOUND;
        int most = NOT_FOUND;
        for (int one = 0; one < MOST_VILLAGERS; one++) {
            for (int other = one + 1; other < MOST_VILLAGERS; other++) {
                if (now.isAwake(one) && now.isAwake(other)) {
                    int passed = now.wouldPass(one, other);
                    if (passed > most) {
                        most = passed;
                        pair = 10 * one + other;
                    }
                }
            }
        }
        return what == 0 ? pair : most;
    }

    public int rounds() {
        trial.copyFrom(now);
        for (int round = 0; round < MOST_ROUNDS; round++) {
            if (trial.awakeAreAlike()) {
                return round;
            }
            trial.meetInTurn();
        }
        return trial.awakeAreAlike() ? MOST_ROUNDS : NOT_FOUND;
    }

    public int count(int what) {
        switch (what) {
            case 0:
                return now.villagers;
            case 1:
                return now.howMany(AWAKE);
            case 2:
                return now.howMany(ASLEEP);
            case 3:
                return now.time;
            case 4:
                return now.watch;
            case 5:
                return now.allRumors();
            case 6:
                return now.allTombs();
            case 7:
                return now.allDead();
            case 8:
                return now.allGhosts();
            case 9:
                return now.tombsMade;
            case 10:
                return history.kept;
            case 11:
                return orders.length;
            default:
                return INVALID_ARGUMENT;
        }
    }

    public int undo() {
        if (history.kept == 0) {
            return NOT_POSSIBLE;
        }
        history.restore(now);
        return history.kept;
    }

    // ---- texts

    public int type(int character) {
        if (character < 32 || character > 126) {
            return INVALID_ARGUMENT;
        }
        return orders.append((char) character) ? orders.length : LIMIT_REACHED;
    }

    public int clearText() {
        int had = orders.length;
        orders.length = 0;
        return had;
    }

    public int fault(int what) {
        if (what != 0 && what != 1) {
            return INVALID_ARGUMENT;
        }
        trial.copyFrom(now);
        orders.carryOut(trial);
        if (orders.faultReason == NO_FAULT) {
            return NOT_FOUND;
        }
        return what == 0 ? orders.faultPosition : orders.faultReason;
    }

    public int play() {
        trial.copyFrom(now);
        orders.carryOut(trial);
        if (orders.faultReason != NO_FAULT) {
            return NOT_POSSIBLE;
        }
        history.prepare(now);
        now.copyFrom(trial);
        return recorded(orders.done);
    }

    // ---- of our own

    /** Keeps the state that was prepared, unless the call has returned an error. */
    private int recorded(int answer) {
        if (answer >= 0) {
            history.keep();
        }
        return answer;
    }

    private static boolean isTopic(int topic) {
        return topic >= 0 && topic < TOPICS;
    }

    /** Where the entry of a topic in a villager's book stands in the rows of a village. */
    private static int place(int villager, int topic) {
        return villager * TOPICS + topic;
    }

    /**
     * All that undo restores. An entry's version and author are one number, its stamp: version times
     * AUTHORS plus author, so that of two entries the newer one is the one with the greater stamp.
     */
    private static final class Village {
        private int villagers = 0;
        private int time = 0;
        private int watch = FIRST_WATCH;
        private int tombsMade = 0;

        // One for each villager.
        private final int[] states = new int[MOST_VILLAGERS];
        private final int[] clocks = new int[MOST_VILLAGERS];
        private final int[] asleepSince = new int[MOST_VILLAGERS];
        private final int[] ghostsOf = new int[MOST_VILLAGERS];

        // One for each topic of each villager's book, found by place. Where the stamp is NO_ENTRY, the
        // others mean nothing, nor do those that an entry of this kind does not have.
        private final int[] stamps = new int[MOST_VILLAGERS * TOPICS];
        private final int[] kinds = new int[MOST_VILLAGERS * TOPICS];
        private final int[] values = new int[MOST_VILLAGERS * TOPICS];
        private final int[] made = new int[MOST_VILLAGERS * TOPICS];
        private final int[] seen = new int[MOST_VILLAGERS * TOPICS];
        // Only the newest tomb matters: some tomb is newer than a rumor if this one is.
        private final int[] newestDropped = new int[MOST_VILLAGERS * TOPICS];
        private final int[] newestTomb = new int[TOPICS];

        void copyFrom(Village from) {
            villagers = from.villagers;
            time = from.time;
            watch = from.watch;
            tombsMade = from.tombsMade;
            copyRow(from.states, states, MOST_VILLAGERS);
            copyRow(from.clocks, clocks, MOST_VILLAGERS);
            copyRow(from.asleepSince, asleepSince, MOST_VILLAGERS);
            copyRow(from.ghostsOf, ghostsOf, MOST_VILLAGERS);
            copyRow(from.stamps, stamps, MOST_VILLAGERS * TOPICS);
            copyRow(from.kinds, kinds, MOST_VILLAGERS * TOPICS);
            copyRow(from.values, values, MOST_VILLAGERS * TOPICS);
            copyRow(from.made, made, MOST_VILLAGERS * TOPICS);
            copyRow(from.seen, seen, MOST_VILLAGERS * TOPICS);
            copyRow(from.newestDropped, newestDropped, MOST_VILLAGERS * TOPICS);
            copyRow(from.newestTomb, newestTomb, TOPICS);
        }

        private static void copyRow(int[] from, int[] to, int length) {
            System.arraycopy(from, 0, to, 0, length);
        }

        // -- villagers

        boolean has(int villager) {
            return villager >= 0 && villager < villagers;
        }

        boolean areTwo(int one, int other) {
            return has(one) && has(other) && one != other;
        }

        boolean isAwake(int villager) {
            return has(villager) && states[villager] == AWAKE;
        }

        boolean isAsleep(int villager) {
            return has(villager) && states[villager] == ASLEEP;
        }

        int ticksAsleep(int villager) {
            return time - asleepSince[villager];
        }

        int howMany(int state) {
            int found = 0;
            for (int v = 0; v < villagers; v++) {
                if (states[v] == state) {
                    found++;
                }
            }
            return found;
        }

        int allGhosts() {
            int all = 0;
            for (int v = 0; v < villagers; v++) {
                all += ghostsOf[v];
            }
            return all;
        }

        int addVillager() {
            if (villagers >= MOST_VILLAGERS) {
                return LIMIT_REACHED;
            }
            villagers++;
            return villagers - 1;
        }

        int fallAsleep(int villager) {
            if (!has(villager)) {
                return INVALID_ARGUMENT;
            }
            if (!isAwake(villager)) {
                return NOT_POSSIBLE;
            }
            states[villager] = ASLEEP;
            asleepSince[villager] = time;
            return howMany(AWAKE);
        }

        int wakeUp(int villager) {
            if (!has(villager)) {
                return INVALID_ARGUMENT;
            }
            if (!isAsleep(villager)) {
                return NOT_POSSIBLE;
            }
            states[villager] = AWAKE;
            return ticksAsleep(villager);
        }

        int goAway(int villager) {
            if (!has(villager)) {
                return INVALID_ARGUMENT;
            }
            if (states[villager] == GONE) {
                return NOT_POSSIBLE;
            }
            states[villager] = GONE;
            for (int topic = 0; topic < TOPICS; topic++) {
                stamps[place(villager, topic)] = NO_ENTRY;
            }
            return howMany(AWAKE) + howMany(ASLEEP);
        }

        int changeWatch(int ticks) {
            if (ticks < 1 || ticks > MOST_TICKS) {
                return INVALID_ARGUMENT;
            }
            int before = watch;
            watch = ticks;
            return before;
        }

        // -- books

        boolean isTomb(int place) {
            return stamps[place] != NO_ENTRY && kinds[place] == TOMB;
        }

        boolean isRumor(int place) {
            return stamps[place] != NO_ENTRY && kinds[place] != TOMB;
        }

        boolean isDead(int villager, int topic) {
            int place = place(villager, topic);
            return isRumor(place) && stamps[place] < newestTomb[topic];
        }

        int author(int place) {
            return stamps[place] % AUTHORS;
        }

        int rumorTopics(int villager) {
            int topics = 0;
            for (int topic = 0; topic < TOPICS; topic++) {
                if (isRumor(place(villager, topic))) {
                    topics |= 1 << topic;
                }
            }
            return topics;
        }

        int tombTopics(int villager) {
            int topics = 0;
            for (int topic = 0; topic < TOPICS; topic++) {
                if (isTomb(place(villager, topic))) {
                    topics |= 1 << topic;
                }
            }
            return topics;
        }

        int deadTopics(int villager) {
            int topics = 0;
            for (int topic = 0; topic < TOPICS; topic++) {
                if (isDead(villager, topic)) {
                    topics |= 1 << topic;
                }
            }
            return topics;
        }

        int unlikeTopics(int one, int other) {
            int topics = 0;
            for (int topic = 0; topic < TOPICS; topic++) {
                if (stamps[place(one, topic)] != stamps[place(other, topic)]) {
                    topics |= 1 << topic;
                }
            }
            return topics;
        }

        int allRumors() {
            int all = 0;
            for (int v = 0; v < villagers; v++) {
                all += Integer.bitCount(rumorTopics(v));
            }
            return all;
        }

        int allTombs() {
            int all = 0;
            for (int v = 0; v < villagers; v++) {
                all += Integer.bitCount(tombTopics(v));
            }
            return all;
        }

        int allDead() {
            int all = 0;
            for (int v = 0; v < villagers; v++) {
                all += Integer.bitCount(deadTopics(v));
            }
            return all;
        }

        /** The villagers who have the newest entry of a topic, as a set; 0 if no book has one. */
        int holdersOfNewest(int topic) {
            int newest = NO_ENTRY;
            int holders = 0;
            for (int v = 0; v < villagers; v++) {
                int stamp = stamps[place(v, topic)];
                if (stamp > newest) {
                    newest = stamp;
                    holders = 0;
                }
                if (stamp != NO_ENTRY && stamp == newest) {
                    holders |= 1 << v;
                }
            }
            return holders;
        }

        int makeRumor(int villager, int topic, int value, int kind) {
            if (!has(villager) || !isTopic(topic) || value < 0 || value > MOST_VALUE
                    || kind < PLAIN || kind > SECRET) {
                return INVALID_ARGUMENT;
            }
            if (!isAwake(villager)) {
                return NOT_POSSIBLE;
            }
            int place = place(villager, topic);
            write(villager, place, kind);
            values[place] = value;
            return clocks[villager];
        }

        int makeTomb(int villager, int topic) {
            if (!has(villager) || !isTopic(topic)) {
                return INVALID_ARGUMENT;
            }
            int place = place(villager, topic);
            if (!isAwake(villager) || !isRumor(place)) {
                return NOT_POSSIBLE;
            }
            write(villager, place, TOMB);
            made[place] = time;
            seen[place] = 1 << villager;
            newestTomb[topic] = Math.max(newestTomb[topic], stamps[place]);
            tombsMade++;
            return clocks[villager];
        }

        /** Puts a new entry in the place of the old one; what its kind has of its own is still to be set. */
        private void write(int villager, int place, int kind) {
            clocks[villager]++;
            stamps[place] = clocks[villager] * AUTHORS + villager;
            kinds[place] = kind;
        }

        // -- meetings

        int bringTogether(int one, int other) {
            if (!areTwo(one, other)) {
                return INVALID_ARGUMENT;
            }
            if (!isAwake(one) || !isAwake(other)) {
                return NOT_POSSIBLE;
            }
            return talk(one, other);
        }

        /** Two villagers meet, be they awake or not; tells how many entries were passed. */
        int talk(int one, int other) {
            int clock = Math.max(clocks[one], clocks[other]);
            clocks[one] = clock;
            clocks[other] = clock;
            int passed = 0;
            for (int topic = 0; topic < TOPICS; topic++) {
                int giver = giver(one, other, topic);
                if (giver != NOBODY) {
                    hand(topic, giver, giver == one ? other : one);
                    passed++;
                }
                shareSight(one, other, topic);
            }
            return passed;
        }

        int wouldPass(int one, int other) {
            int passed = 0;
            for (int topic = 0; topic < TOPICS; topic++) {
                if (giver(one, other, topic) != NOBODY) {
                    passed++;
                }
            }
            return passed;
        }

        /** Who of both would pass an entry of this topic to the other one; NOBODY if neither would. */
        private int giver(int one, int other, int topic) {
            int ofOne = stamps[place(one, topic)];
            int ofOther = stamps[place(other, topic)];
            if (ofOne == ofOther) {
                return NOBODY;
            }
            int giver = ofOne > ofOther ? one : other;
            int taker = ofOne > ofOther ? other : one;
            int place = place(giver, topic);
            return mayBeHanded(kinds[place], author(place) == giver, taker > giver) ? giver : NOBODY;
        }

        private static boolean mayBeHanded(int kind, boolean byAuthor, boolean upward) {
            switch (kind) {
                case WHISPERED:
                    return byAuthor;
                case SECRET:
                    return byAuthor && upward;
                default:
                    return true;
            }
        }

        private void hand(int topic, int giver, int taker) {
            int from = place(giver, topic);
            int to = place(taker, topic);
            // A tomb that was dropped was made, so a rumor that is older than it is dead.
            if (isRumor(from) && stamps[from] < newestDropped[to]) {
                ghostsOf[taker]++;
            }
            stamps[to] = stamps[from];
            kinds[to] = kinds[from];
            values[to] = values[from];
            made[to] = made[from];
            seen[to] = seen[from];
        }

        private void shareSight(int one, int other, int topic) {
            int here = place(one, topic);
            int there = place(other, topic);
            if (isTomb(here) && stamps[here] == stamps[there]) {
                int both = seen[here] | seen[there] | 1 << one | 1 << other;
                seen[here] = both;
                seen[there] = both;
            }
        }

        boolean awakeAreAlike() {
            int last = NOBODY;
            for (int v = 0; v < villagers; v++) {
                if (isAwake(v)) {
                    if (last != NOBODY && unlikeTopics(last, v) != 0) {
                        return false;
                    }
                    last = v;
                }
            }
            return true;
        }

        /** One round: each villager who is awake meets the next one, the last one the first one. */
        void meetInTurn() {
            int first = NOBODY;
            int last = NOBODY;
            for (int v = 0; v < villagers; v++) {
                if (isAwake(v)) {
                    if (last == NOBODY) {
                        first = v;
                    } else {
                        talk(last, v);
                    }
                    last = v;
                }
            }
            if (howMany(AWAKE) > 2) {
                talk(last, first);
            }
        }

        // -- ticks

        int letGoBy(int ticks) {
            if (ticks < 1 || ticks > MOST_TICKS) {
                return INVALID_ARGUMENT;
            }
            if (time + ticks > MOST_TIME) {
                return LIMIT_REACHED;
            }
            return pass(ticks);
        }

        /**
         * Lets one tick or more go by; tells how many copies of tombs were dropped. Between ticks no
         * entry changes, and a watch that is over stays over: so one look behind all of them is enough.
         */
        int pass(int ticks) {
            time += ticks;
            int dropped = 0;
            int present = present();
            for (int v = 0; v < villagers; v++) {
                for (int topic = 0; topic < TOPICS; topic++) {
                    int place = place(v, topic);
                    if (isTomb(place) && isOver(place, present)) {
                        newestDropped[place] = Math.max(newestDropped[place], stamps[place]);
                        stamps[place] = NO_ENTRY;
                        dropped++;
                    }
                }
            }
            return dropped;
        }

        private boolean isOver(int place, int present) {
            return (present & ~seen[place]) == 0 || time - made[place] >= watch;
        }

        /** The villagers who are not gone, as a set. */
        private int present() {
            int present = 0;
            for (int v = 0; v < villagers; v++) {
                if (states[v] != GONE) {
                    present |= 1 << v;
                }
            }
            return present;
        }
    }

    /** The states that undo restores, the oldest one first, and behind them room for one more. */
    private static final class History {
        private final Village[] states = new Village[MOST_STATES + 1];
        private int kept = 0;

        History() {
            for (int i = 0; i < states.length; i++) {
                states[i] = new Village();
            }
        }

        /** Copies a state behind the kept ones; it is one of them only if keep is called. */
        void prepare(Village village) {
            states[kept].copyFrom(village);
        }

        void keep() {
            kept++;
            if (kept > MOST_STATES) {
                dropOldest();
            }
        }

        private void dropOldest() {
            Village oldest = states[0];
            for (int i = 0; i < MOST_STATES; i++) {
                states[i] = states[i + 1];
            }
            states[MOST_STATES] = oldest;
            kept--;
        }

        /** Takes the latest state out, of which there must be one. */
        void restore(Village village) {
            kept--;
            village.copyFrom(states[kept]);
        }
    }

    /** The text, and what carrying it out has told: how many orders are done, and its fault. */
    private static final class Orders {
        private final char[] signs = new char[MOST_SIGNS];
        private int length = 0;

        // The numbers of the order that was read last.
        private final int[] numbers = new int[3];

        private int done = 0;
        private int faultPosition = 0;
        private int faultReason = NO_FAULT;

        boolean append(char sign) {
            if (length >= MOST_SIGNS) {
                return false;
            }
            signs[length] = sign;
            length++;
            return true;
        }

        /** Does the orders one by one in a village, up to the first one that is not possible. */
        void carryOut(Village village) {
            done = 0;
            int start = 0;
            for (int end = 0; end < length; end++) {
                if (signs[end] == ';') {
                    setFault(start, tryOrder(start, end, village));
                    if (faultReason != NO_FAULT) {
                        return;
                    }
                    done++;
                    start = end + 1;
                }
            }
            setFault(start, start < length ? FORM_FAULT : NO_FAULT);
        }

        private void setFault(int position, int reason) {
            faultPosition = position;
            faultReason = reason;
        }

        /** Does the order from start up to the ";" at end; tells why it is not possible, or NO_FAULT. */
        private int tryOrder(int start, int end, Village village) {
            if (!readNumbers(start, end)) {
                return FORM_FAULT;
            }
            if (!namesExist(signs[start], village)) {
                return NAME_FAULT;
            }
            return doOrder(signs[start], village) < 0 ? OTHER_FAULT : NO_FAULT;
        }

        /** Reads the numbers behind the letter at start; tells whether the order is of the right form. */
        private boolean readNumbers(int start, int end) {
            int wanted = numbersOf(signs[start]);
            int read = 0;
            int number = 0;
            int digits = 0;
            for (int i = start + 1; i <= end; i++) {
                char sign = signs[i];
                if (sign >= '0' && sign <= '9') {
                    number = number * 10 + (sign - '0');
                    digits++;
                    if (digits > 2) {
                        return false;
                    }
                } else {
                    boolean closes = i == end || sign == ',';
                    if (!closes || digits == 0 || read >= wanted) {
                        return false;
                    }
                    numbers[read] = number;
                    read++;
                    number = 0;
                    digits = 0;
                }
            }
            return wanted > 0 && read == wanted;
        }

        /** How many numbers an order has; 0 if no order begins with this letter. */
        private static int numbersOf(char letter) {
            switch (letter) {
                case 't':
                    return 3;
                case 'b':
                case 'm':
                    return 2;
                case 's':
                case 'w':
                case 'n':
                    return 1;
                default:
                    return 0;
            }
        }

        private boolean namesExist(char letter, Village village) {
            switch (letter) {
                case 't':
                case 'b':
                    return village.has(numbers[0]) && isTopic(numbers[1]);
                case 'm':
                    return village.has(numbers[0]) && village.has(numbers[1]);
                case 's':
                case 'w':
                    return village.has(numbers[0]);
                default:
                    return true;
            }
        }

        /** Does the order that was read last; tells an error if it is not possible. */
        private int doOrder(char letter, Village village) {
            switch (letter) {
                case 't':
                    return village.makeRumor(numbers[0], numbers[1], numbers[2], PLAIN);
                case 'b':
                    return village.makeTomb(numbers[0], numbers[1]);
                case 'm':
                    return village.bringTogether(numbers[0], numbers[1]);
                case 's':
                    return village.fallAsleep(numbers[0]);
                case 'w':
                    return village.wakeUp(numbers[0]);
                default:
                    return village.letGoBy(numbers[0]);
            }
        }
    }
}
