import java.util.ArrayList;
import java.util.List;

/**
 * The range of each argument of each call: the lowest and the highest one allowed are taken, and all
 * between them; those next to them are not, nor the least and the greatest int, nor a number that only
 * looks like an allowed one when some of its bits are lost.
 */
public final class ArgumentEdgesTest {
    private interface Call {
        int on(RumorTombs x, int argument);
    }

    public static void main(String[] args) {
        for (int villagers = 0; villagers <= 7; villagers++) {
            villagerNumbers(villagers);
        }
        for (int villagers = 2; villagers <= 7; villagers++) {
            numbersOfTwo(villagers);
        }
        thoseWhoAreGone();
        topics();
        valuesAndKinds();
        ticks();
        whats();
        characters();
        Due.end();
    }

    private static void range(String name, int villagers, int low, int high, Call call) {
        for (int argument : outside(low, high)) {
            Due.is(name + ", " + argument, call.on(busy(villagers), argument), Villages.INVALID);
        }
        for (int argument = low; argument <= high; argument++) {
            Due.isNot(name + ", " + argument, call.on(busy(villagers), argument), Villages.INVALID);
        }
    }

    private static List<Integer> outside(int low, int high) {
        List<Integer> all = new ArrayList<>(List.of(low - 1, low - 2, high + 1, high + 2, Integer.MIN_VALUE,
                Integer.MIN_VALUE + 1, Integer.MAX_VALUE - 1, Integer.MAX_VALUE));
        for (int bit = 0; bit < 32; bit++) {
            all.addAll(List.of(low + (1 << bit), low - (1 << bit), high + (1 << bit), high - (1 << bit)));
        }
        all.removeIf(argument -> argument >= low && argument <= high);
        return all;
    }

    /** Each villager is awake and has a plain rumor of topics 0 and 11. */
    private static RumorTombs busy(int villagers) {
        RumorTombs x = Villages.of(villagers);
        for (int v = 0; v < villagers; v++) {
            x.tell(v, 0, 0, Villages.PLAIN);
            x.tell(v, 11, 99, Villages.PLAIN);
        }
        return x;
    }

    private static void villagerNumbers(int n) {
        Due.sentence("If there is no villager with a certain number, this is INVALID_ARGUMENT");
        String of = " of " + n + " villagers";
        range("sleep" + of, n, 0, n - 1, (x, v) -> x.sleep(v));
        range("wake" + of, n, 0, n - 1, (x, v) -> x.wake(v));
        range("leave" + of, n, 0, n - 1, (x, v) -> x.leave(v));
        range("villagerOf, villager" + of, n, 0, n - 1, (x, v) -> x.villagerOf(v, 0));
        range("tell, villager" + of, n, 0, n - 1, (x, v) -> x.tell(v, 0, 0, 0));
        range("bury, villager" + of, n, 0, n - 1, (x, v) -> x.bury(v, 0));
        range("entryOf, villager" + of, n, 0, n - 1, (x, v) -> x.entryOf(v, 0, 0));
        range("unlike, one" + of, n, 0, n - 1, (x, v) -> x.unlike(v, n - 1));
        range("unlike, other" + of, n, 0, n - 1, (x, v) -> x.unlike(n - 1, v));
        range("unlike, both" + of, n, 0, n - 1, (x, v) -> x.unlike(v, v));
        range("dead" + of, n, 0, n - 1, (x, v) -> x.dead(v));
    }

    private static void numbersOfTwo(int n) {
        Due.sentence("INVALID_ARGUMENT if an argument is out of range or both are the same");
        String of = " of " + n + " villagers";
        range("meet, one" + of, n, 1, n - 1, (x, v) -> x.meet(v, 0));
        range("meet, other" + of, n, 1, n - 1, (x, v) -> x.meet(0, v));
        range("meet, not the last one" + of, n, 0, n - 2, (x, v) -> x.meet(n - 1, v));
        range("ghosts, one" + of, n, 1, n - 1, (x, v) -> x.ghosts(v, 0, 0));
        range("ghosts, other" + of, n, 1, n - 1, (x, v) -> x.ghosts(0, v, 0));
        range("ghosts, not the last one" + of, n, 0, n - 2, (x, v) -> x.ghosts(v, n - 1, 0));
        for (int both = -1; both <= n; both++) {
            Due.is("meet, both " + both, busy(n).meet(both, both), Villages.INVALID);
            Due.is("ghosts, both " + both, busy(n).ghosts(both, both, 0), Villages.INVALID);
        }
    }

    private static void thoseWhoAreGone() {
        Due.sentence("There are at most 7 villagers, numbered from 0; each is awake, asleep, or gone for good");
        RumorTombs x = Villages.of(2);
        x.leave(1);
        Due.is("villagerOf one gone", x.villagerOf(1, 0), 2);
        Due.is("entryOf one gone", x.entryOf(1, 0, 0), Villages.NONE);
        Due.is("unlike one gone", x.unlike(1, 0), 0);
        Due.is("dead of one gone", x.dead(1), 0);
        Due.is("sleep of one gone", x.sleep(1), Villages.IMPOSSIBLE);
        Due.is("sleep of no villager", x.sleep(2), Villages.INVALID);
    }

    private static void topics() {
        Due.sentence("topic: 0 to 11");
        range("tell, topic", 1, 0, 11, (x, topic) -> x.tell(0, topic, 0, 0));
        range("bury, topic", 1, 0, 11, (x, topic) -> x.bury(0, topic));
        range("entryOf, topic", 1, 0, 11, (x, topic) -> x.entryOf(0, topic, 0));
        range("newest", 1, 0, 11, (x, topic) -> x.newest(topic));
        range("newest of 7 villagers", 7, 0, 11, (x, topic) -> x.newest(topic));
        range("tell, topic, the last villager", 7, 0, 11, (x, topic) -> x.tell(6, topic, 0, 0));
    }

    private static void valuesAndKinds() {
        Due.sentence("value: 0 to 99");
        range("tell, value", 1, 0, 99, (x, value) -> x.tell(0, 0, value, 0));
        Due.sentence("kind: 0 to 2");
        range("tell, kind", 1, 0, 2, (x, kind) -> x.tell(0, 0, 0, kind));
    }

    private static void ticks() {
        Due.sentence("ticks: 1 to 60");
        range("watch", 0, 1, 60, (x, ticks) -> x.watch(ticks));
        range("tick", 0, 1, 60, (x, ticks) -> x.tick(ticks));
        Due.sentence("ticks: 0 to 60");
        range("ghosts, ticks", 2, 0, 60, (x, ticks) -> x.ghosts(0, 1, ticks));
    }

    private static void whats() {
        Due.sentence("INVALID_ARGUMENT if an argument is out of range");
        range("villagerOf, what", 1, 0, 5, (x, what) -> x.villagerOf(0, what));
        range("entryOf, what", 1, 0, 7, (x, what) -> x.entryOf(0, 0, what));
        range("entryOf, what, no entry", 1, 0, 7, (x, what) -> x.entryOf(0, 5, what));
        Due.sentence("INVALID_ARGUMENT if what is out of range");
        range("bestMeeting, nobody", 0, 0, 1, (x, what) -> x.bestMeeting(what));
        range("bestMeeting", 7, 0, 1, (x, what) -> x.bestMeeting(what));
        range("count", 2, 0, 11, (x, what) -> x.count(what));
        range("fault, no text", 2, 0, 1, (x, what) -> x.fault(what));
        range("fault", 2, 0, 1, (x, what) -> {
            x.type('n');
            return x.fault(what);
        });
    }

    private static void characters() {
        Due.sentence("character: 32 to 126");
        range("type", 0, 32, 126, (x, character) -> x.type(character));
    }
}
