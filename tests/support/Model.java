import java.util.ArrayList;
import java.util.HashMap;
import java.util.List;
import java.util.Map;
import java.util.TreeMap;
import java.util.TreeSet;
import java.util.regex.Matcher;
import java.util.regex.Pattern;

/**
 * The document once more, as slowly and literally as can be: whole lists of all tombs that were ever
 * made or dropped, ticks one by one, a new copy for all that would be. The class is compared with it.
 */
public final class Model {
    private static final int INVALID = -1000001;
    private static final int IMPOSSIBLE = -1000002;
    private static final int LIMIT = -1000003;
    private static final int NONE = -1000004;

    private record Tomb(int topic, int version, int author) {
    }

    private record Rumor(int value, int kind) {
    }

    private static final class Entry {
        int version;
        int author;
        Rumor rumor; // null for a tomb
        int made;
        TreeSet<Integer> seen = new TreeSet<>();

        Entry copy() {
            Entry e = new Entry();
            e.version = version;
            e.author = author;
            e.rumor = rumor;
            e.made = made;
            e.seen = new TreeSet<>(seen);
            return e;
        }

        boolean newerThan(int otherVersion, int otherAuthor) {
            return version > otherVersion || version == otherVersion && author > otherAuthor;
        }

        boolean same(Entry e) {
            return version == e.version && author == e.author;
        }
    }

    private static final class Person {
        String state = "awake";
        int clock;
        int since;
        int ghosts;
        Map<Integer, Entry> book = new TreeMap<>();
        List<Tomb> dropped = new ArrayList<>();

        Person copy() {
            Person p = new Person();
            p.state = state;
            p.clock = clock;
            p.since = since;
            p.ghosts = ghosts;
            book.forEach((topic, entry) -> p.book.put(topic, entry.copy()));
            p.dropped = new ArrayList<>(dropped);
            return p;
        }
    }

    private static final class World {
        List<Person> people = new ArrayList<>();
        int time;
        int watch = 10;
        List<Tomb> tombs = new ArrayList<>();

        World copy() {
            World w = new World();
            people.forEach(p -> w.people.add(p.copy()));
            w.time = time;
            w.watch = watch;
            w.tombs = new ArrayList<>(tombs);
            return w;
        }
    }

    private World world = new World();
    private List<World> past = new ArrayList<>();
    private String text = "";

    private boolean no(int villager) {
        return villager < 0 || villager >= world.people.size();
    }

    private boolean awake(int villager) {
        return world.people.get(villager).state.equals("awake");
    }

    private List<Integer> allIn(String state) {
        List<Integer> all = new ArrayList<>();
        for (int v = 0; v < world.people.size(); v++) {
            if (world.people.get(v).state.equals(state)) {
                all.add(v);
            }
        }
        return all;
    }

    private void record() {
        past.add(world.copy());
        if (past.size() == 5) {
            past.remove(0);
        }
    }

    private boolean isDead(Entry entry, int topic) {
        return entry.rumor != null && anyNewer(world.tombs, entry, topic);
    }

    private static boolean anyNewer(List<Tomb> tombs, Entry entry, int topic) {
        for (Tomb t : tombs) {
            boolean older = entry.newerThan(t.version, t.author) || entry.version == t.version && entry.author == t.author;
            if (t.topic == topic && !older) {
                return true;
            }
        }
        return false;
    }

    /** What a call on a copy of the world answers; the world is as before then. */
    private int imagined(java.util.function.IntSupplier call) {
        World before = world;
        List<World> pastBefore = past;
        world = world.copy();
        past = new ArrayList<>();
        int answer = call.getAsInt();
        world = before;
        past = pastBefore;
        return answer;
    }

    public int villager() {
        if (world.people.size() == 7) {
            return LIMIT;
        }
        record();
        world.people.add(new Person());
        return world.people.size() - 1;
    }

    public int sleep(int villager) {
        if (no(villager)) {
            return INVALID;
        }
        if (!awake(villager)) {
            return IMPOSSIBLE;
        }
        record();
        world.people.get(villager).state = "asleep";
        world.people.get(villager).since = world.time;
        return allIn("awake").size();
    }

    public int wake(int villager) {
        if (no(villager)) {
            return INVALID;
        }
        if (!world.people.get(villager).state.equals("asleep")) {
            return IMPOSSIBLE;
        }
        record();
        world.people.get(villager).state = "awake";
        return world.time - world.people.get(villager).since;
    }

    public int leave(int villager) {
        if (no(villager)) {
            return INVALID;
        }
        if (world.people.get(villager).state.equals("gone")) {
            return IMPOSSIBLE;
        }
        record();
        world.people.get(villager).state = "gone";
        world.people.get(villager).book.clear();
        return world.people.size() - allIn("gone").size();
    }

    public int watch(int ticks) {
        if (ticks < 1 || ticks > 60) {
            return INVALID;
        }
        record();
        int before = world.watch;
        world.watch = ticks;
        return before;
    }

    private static int bits(Iterable<Integer> numbers) {
        int bits = 0;
        for (int n : numbers) {
            bits |= 1 << n;
        }
        return bits;
    }

    private List<Integer> topics(int villager, boolean rumors) {
        List<Integer> topics = new ArrayList<>();
        world.people.get(villager).book.forEach((topic, entry) -> {
            if ((entry.rumor != null) == rumors) {
                topics.add(topic);
            }
        });
        return topics;
    }

    public int villagerOf(int villager, int what) {
        if (no(villager) || what < 0 || what > 5) {
            return INVALID;
        }
        Person p = world.people.get(villager);
        return switch (what) {
            case 0 -> List.of("awake", "asleep", "gone").indexOf(p.state);
            case 1 -> p.clock;
            case 2 -> bits(topics(villager, true));
            case 3 -> bits(topics(villager, false));
            case 4 -> p.ghosts;
            default -> p.state.equals("asleep") ? world.time - p.since : NONE;
        };
    }

    private Entry made(int villager, int topic) {
        Person p = world.people.get(villager);
        Entry e = new Entry();
        p.clock++;
        e.version = p.clock;
        e.author = villager;
        p.book.put(topic, e);
        return e;
    }

    public int tell(int villager, int topic, int value, int kind) {
        if (no(villager) || topic < 0 || topic > 11 || value < 0 || value > 99 || kind < 0 || kind > 2) {
            return INVALID;
        }
        if (!awake(villager)) {
            return IMPOSSIBLE;
        }
        record();
        Entry e = made(villager, topic);
        e.rumor = new Rumor(value, kind);
        return e.version;
    }

    public int bury(int villager, int topic) {
        if (no(villager) || topic < 0 || topic > 11) {
            return INVALID;
        }
        if (!awake(villager) || !topics(villager, true).contains(topic)) {
            return IMPOSSIBLE;
        }
        record();
        Entry e = made(villager, topic);
        e.made = world.time;
        e.seen.add(villager);
        world.tombs.add(new Tomb(topic, e.version, villager));
        return e.version;
    }

    private boolean gives(int giver, int taker, int topic) {
        Entry given = world.people.get(giver).book.get(topic);
        Entry had = world.people.get(taker).book.get(topic);
        if (given == null || had != null && !given.newerThan(had.version, had.author)) {
            return false;
        }
        if (given.rumor == null || given.rumor.kind == 0) {
            return true;
        }
        return given.author == giver && (given.rumor.kind == 1 || taker > giver);
    }

    private void give(int giver, int taker, int topic) {
        Entry given = world.people.get(giver).book.get(topic).copy();
        if (isDead(given, topic) && anyNewer(world.people.get(taker).dropped, given, topic)) {
            world.people.get(taker).ghosts++;
        }
        world.people.get(taker).book.put(topic, given);
    }

    private int talk(int one, int other) {
        Person a = world.people.get(one);
        Person b = world.people.get(other);
        a.clock = Math.max(a.clock, b.clock);
        b.clock = a.clock;
        int passed = 0;
        for (int topic = 0; topic < 12; topic++) {
            if (gives(one, other, topic)) {
                give(one, other, topic);
                passed++;
            } else if (gives(other, one, topic)) {
                give(other, one, topic);
                passed++;
            }
            Entry x = a.book.get(topic);
            Entry y = b.book.get(topic);
            if (x != null && y != null && x.same(y) && x.rumor == null) {
                x.seen.addAll(y.seen);
                x.seen.add(one);
                x.seen.add(other);
                y.seen.addAll(x.seen);
            }
        }
        return passed;
    }

    public int meet(int one, int other) {
        if (no(one) || no(other) || one == other) {
            return INVALID;
        }
        if (!awake(one) || !awake(other)) {
            return IMPOSSIBLE;
        }
        record();
        return talk(one, other);
    }

    public int entryOf(int villager, int topic, int what) {
        if (no(villager) || topic < 0 || topic > 11 || what < 0 || what > 7) {
            return INVALID;
        }
        Entry e = world.people.get(villager).book.get(topic);
        if (e == null) {
            return NONE;
        }
        Map<Integer, Integer> things = new HashMap<>();
        things.put(0, e.rumor == null ? 1 : 0);
        things.put(1, e.version);
        things.put(2, e.author);
        if (e.rumor == null) {
            things.put(5, e.made);
            things.put(6, bits(e.seen));
        } else {
            things.put(3, e.rumor.value);
            things.put(4, e.rumor.kind);
            things.put(7, isDead(e, topic) ? 1 : 0);
        }
        return things.getOrDefault(what, NONE);
    }

    private int goBy() {
        world.time++;
        int dropped = 0;
        TreeSet<Integer> here = new TreeSet<>(allIn("awake"));
        here.addAll(allIn("asleep"));
        for (int v : here) {
            Person p = world.people.get(v);
            for (int topic : topics(v, false)) {
                Entry e = p.book.get(topic);
                if (e.seen.containsAll(here) || world.time - e.made >= world.watch) {
                    p.book.remove(topic);
                    p.dropped.add(new Tomb(topic, e.version, e.author));
                    dropped++;
                }
            }
        }
        return dropped;
    }

    public int tick(int ticks) {
        if (ticks < 1 || ticks > 60) {
            return INVALID;
        }
        if (world.time + ticks > 100000) {
            return LIMIT;
        }
        record();
        int dropped = 0;
        for (int i = 0; i < ticks; i++) {
            dropped += goBy();
        }
        return dropped;
    }

    public int newest(int topic) {
        if (topic < 0 || topic > 11) {
            return INVALID;
        }
        List<Integer> holders = new ArrayList<>();
        for (int v = 0; v < world.people.size(); v++) {
            Entry e = world.people.get(v).book.get(topic);
            boolean newest = e != null;
            for (Person p : world.people) {
                Entry f = p.book.get(topic);
                newest = newest && (f == null || !f.newerThan(e.version, e.author));
            }
            if (newest) {
                holders.add(v);
            }
        }
        return holders.isEmpty() ? NONE : bits(holders);
    }

    public int unlike(int one, int other) {
        if (no(one) || no(other)) {
            return INVALID;
        }
        List<Integer> topics = new ArrayList<>();
        for (int topic = 0; topic < 12; topic++) {
            Entry x = world.people.get(one).book.get(topic);
            Entry y = world.people.get(other).book.get(topic);
            if (x == null ? y != null : y == null || !x.same(y)) {
                topics.add(topic);
            }
        }
        return bits(topics);
    }

    public int dead(int villager) {
        if (no(villager)) {
            return INVALID;
        }
        List<Integer> topics = new ArrayList<>();
        world.people.get(villager).book.forEach((topic, entry) -> {
            if (isDead(entry, topic)) {
                topics.add(topic);
            }
        });
        return bits(topics);
    }

    private int allGhosts() {
        return world.people.stream().mapToInt(p -> p.ghosts).sum();
    }

    public int ghosts(int one, int other, int ticks) {
        if (no(one) || no(other) || one == other || ticks < 0 || ticks > 60) {
            return INVALID;
        }
        if (allIn("gone").contains(one) || allIn("gone").contains(other)) {
            return IMPOSSIBLE;
        }
        return imagined(() -> {
            int before = allGhosts();
            for (int i = 0; i < ticks; i++) {
                goBy();
            }
            talk(one, other);
            return allGhosts() - before;
        });
    }

    public int bestMeeting(int what) {
        if (what < 0 || what > 1) {
            return INVALID;
        }
        TreeMap<Integer, Integer> firstOf = new TreeMap<>();
        for (int one : allIn("awake")) {
            for (int other : allIn("awake")) {
                if (one < other) {
                    firstOf.putIfAbsent(imagined(() -> talk(one, other)), 10 * one + other);
                }
            }
        }
        if (firstOf.isEmpty()) {
            return NONE;
        }
        return what == 0 ? firstOf.lastEntry().getValue() : firstOf.lastKey();
    }

    private boolean alike(List<Integer> villagers) {
        for (int one : villagers) {
            for (int other : villagers) {
                if (unlike(one, other) != 0) {
                    return false;
                }
            }
        }
        return true;
    }

    public int rounds() {
        return imagined(() -> {
            List<Integer> awake = allIn("awake");
            for (int round = 0; round <= 7; round++) {
                if (alike(awake)) {
                    return round;
                }
                int meetings = awake.size() == 2 ? 1 : awake.size();
                for (int i = 0; i < meetings; i++) {
                    talk(awake.get(i), awake.get((i + 1) % awake.size()));
                }
            }
            return NONE;
        });
    }

    public int count(int what) {
        int rumors = 0;
        int tombs = 0;
        int dead = 0;
        for (int v = 0; v < world.people.size(); v++) {
            rumors += topics(v, true).size();
            tombs += topics(v, false).size();
            dead += Integer.bitCount(dead(v));
        }
        return switch (what) {
            case 0 -> world.people.size();
            case 1 -> allIn("awake").size();
            case 2 -> allIn("asleep").size();
            case 3 -> world.time;
            case 4 -> world.watch;
            case 5 -> rumors;
            case 6 -> tombs;
            case 7 -> dead;
            case 8 -> allGhosts();
            case 9 -> world.tombs.size();
            case 10 -> past.size();
            case 11 -> text.length();
            default -> INVALID;
        };
    }

    public int undo() {
        if (past.isEmpty()) {
            return IMPOSSIBLE;
        }
        world = past.remove(past.size() - 1);
        return past.size();
    }

    public int type(int character) {
        if (character < 32 || character > 126) {
            return INVALID;
        }
        if (text.length() == 60) {
            return LIMIT;
        }
        text += (char) character;
        return text.length();
    }

    public int clearText() {
        int length = text.length();
        text = "";
        return length;
    }

    private static final Pattern ORDER = Pattern.compile(
            "(?:(t)(\\d{1,2}),(\\d{1,2}),(\\d{1,2})|([bm])(\\d{1,2}),(\\d{1,2})|([swn])(\\d{1,2}));");

    /** Does the orders; answers how many there are, or the fault as -1 - position * 4 - reason. */
    private int run() {
        Matcher matcher = ORDER.matcher(text);
        int orders = 0;
        int at = 0;
        while (at < text.length()) {
            matcher.region(at, text.length());
            int reason = matcher.lookingAt() ? order(matcher.group()) : 1;
            if (reason != 0) {
                return -1 - at * 4 - reason;
            }
            at = matcher.end();
            orders++;
        }
        return orders;
    }

    private int order(String order) {
        String[] parts = order.substring(1, order.length() - 1).split(",");
        int[] n = new int[parts.length];
        for (int i = 0; i < n.length; i++) {
            n[i] = Integer.parseInt(parts[i]);
        }
        char letter = order.charAt(0);
        boolean topicWrong = (letter == 't' || letter == 'b') && n[1] > 11;
        if (letter != 'n' && no(n[0]) || letter == 'm' && no(n[1]) || topicWrong) {
            return 2;
        }
        int answer = switch (letter) {
            case 't' -> tell(n[0], n[1], n[2], 0);
            case 'b' -> bury(n[0], n[1]);
            case 'm' -> meet(n[0], n[1]);
            case 's' -> sleep(n[0]);
            case 'w' -> wake(n[0]);
            default -> tick(n[0]);
        };
        return answer < 0 ? 3 : 0;
    }

    public int fault(int what) {
        if (what < 0 || what > 1) {
            return INVALID;
        }
        int result = imagined(this::run);
        if (result >= 0) {
            return NONE;
        }
        return what == 0 ? (-1 - result) / 4 : (-1 - result) % 4;
    }

    public int play() {
        if (imagined(this::run) < 0) {
            return IMPOSSIBLE;
        }
        List<World> states = past;
        past = new ArrayList<>();
        World before = world.copy();
        int orders = run();
        past = states;
        World behind = world;
        world = before;
        record();
        world = behind;
        return orders;
    }
}
