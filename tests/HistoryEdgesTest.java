import java.util.function.Supplier;
import java.util.function.ToIntFunction;

/** The sentences about changes, the history and undo that name an edge: promise 20. */
public final class HistoryEdgesTest {
    public static void main(String[] args) {
        atMostFourStates();
        statesThatAreLeft();
        theOldestIsDropped();
        eachChangeIsUndone();
        changesThatDoLittle();
        whatIsNoChange();
        undoOfAnEmptyHistory();
        undoIsNoChange();
        theTextIsNotRestored();
        whatNobodyHasAnyLonger();
        theLastPlaceOfTheLastBook();
        manyChanges();
        Due.end();
    }

    private static void atMostFourStates() {
        Due.sentence("A history of at most 4 states is kept");
        RumorTombs x = new RumorTombs();
        for (int changes = 0; changes <= 40; changes++) {
            Due.is("states behind " + changes + " changes", x.count(10), Math.min(changes, 4));
            x.tick(1);
        }
    }

    private static void statesThatAreLeft() {
        Due.sentence("Returns the number of states that are left in the history; NOT_POSSIBLE if it is empty");
        for (int changes = 0; changes <= 7; changes++) {
            RumorTombs x = new RumorTombs();
            for (int i = 0; i < changes; i++) {
                x.tick(1);
            }
            int time = changes;
            for (int left = Math.min(changes, 4) - 1; left >= 0; left--) {
                Due.is("undo behind " + changes + " changes", x.undo(), left);
                Due.is("states", x.count(10), left);
                time--;
                Due.is("the time", x.count(3), time);
            }
            Due.is("undo of none", x.undo(), Villages.IMPOSSIBLE);
            Due.is("the time still", x.count(3), time);
            Due.is("no states", x.count(10), 0);
        }
    }

    private static void theOldestIsDropped() {
        Due.sentence("if there are 5 states then, the oldest one is dropped");
        RumorTombs x = new RumorTombs();
        for (int v = 0; v < 5; v++) {
            x.villager();
        }
        for (int i = 0; i < 4; i++) {
            x.undo();
        }
        Due.is("the state without villagers is dropped", x.count(0), 1);
        Due.is("undo", x.undo(), Villages.IMPOSSIBLE);
        x.watch(7);
        x.watch(8);
        x.undo();
        x.watch(9);
        x.watch(11);
        x.watch(12);
        Due.is("four states, one of them anew", x.count(10), 4);
        int[] watches = {11, 9, 7, 10};
        for (int i = 0; i < 4; i++) {
            Due.is("undo", x.undo(), 3 - i);
            Due.is("the watch", x.count(4), watches[i]);
        }
    }

    /** A village in which each of the changes is possible, and changes much. */
    private static RumorTombs village() {
        RumorTombs x = Villages.of(4);
        x.tell(1, 1, 10, Villages.PLAIN);
        x.tell(1, 2, 20, Villages.SECRET);
        x.meet(1, 3);
        x.tick(8);
        x.bury(3, 1);
        x.meet(3, 0);
        x.tick(7);
        x.sleep(3);
        x.tell(0, 3, 30, Villages.PLAIN);
        x.tick(2);
        x.tell(0, 0, 66, Villages.PLAIN);
        x.bury(0, 3);
        Villages.write(x, "t1,5,5;b1,5;n9;m0,1;w3;n1;s3;");
        return x;
    }

    private static void eachChangeIsUndone() {
        Due.sentence("each change records everything before it but the text");
        undone("villager", x -> x.villager());
        undone("tell", x -> x.tell(0, 0, 77, Villages.WHISPERED));
        undone("tell a new one", x -> x.tell(2, 11, 99, Villages.SECRET));
        undone("bury", x -> x.bury(1, 1));
        undone("meet", x -> x.meet(0, 1));
        undone("sleep", x -> x.sleep(2));
        undone("wake", x -> x.wake(3));
        undone("leave", x -> x.leave(0));
        undone("leave in sleep", x -> x.leave(3));
        undone("watch", x -> x.watch(20));
        undone("tick", x -> x.tick(4));
        undone("tick that drops", x -> x.tick(60));
        undone("play", x -> x.play());
    }

    private static void undone(String name, ToIntFunction<RumorTombs> change) {
        Supplier<RumorTombs> changed = () -> {
            RumorTombs x = village();
            change.applyAsInt(x);
            return x;
        };
        Due.is(name + " is possible", change.applyAsInt(village()) >= 0 ? 1 : 0, 1);
        Due.is("states behind " + name, changed.get().count(10), 4);
        Due.is("undo of " + name, changed.get().undo(), 3);
        String before = Look.at(HistoryEdgesTest::village);
        Due.is(name + " changes nothing", Look.at(changed).equals(before) ? 1 : 0, 0);
        String behind = Look.at(() -> {
            RumorTombs x = changed.get();
            x.undo();
            return x;
        });
        Due.is(name + " is undone", behind.equals(before) ? 1 : 0, 1);
    }

    private static void changesThatDoLittle() {
        Due.sentence("The changes are the calls of .. that return no error");
        RumorTombs x = Villages.of(2);
        Due.is("states", x.count(10), 2);
        x.watch(10);
        Due.is("the watch that is", x.count(10), 3);
        x.undo();
        x.meet(0, 1);
        Due.is("a meeting where nothing is passed", x.count(10), 3);
        x.undo();
        x.tick(1);
        Due.is("a tick that drops nothing", x.count(10), 3);
        x.undo();
        x.play();
        Due.is("no orders", x.count(10), 3);
        x.undo();
        Due.is("states at last", x.count(10), 2);
        Villages.write(x, "t0,0,1;b0,0;s0;w0;n1;m0,1;");
        x.play();
        Due.is("six orders are one change", x.count(10), 3);
        Due.is("undo", x.undo(), 2);
        Due.is("of all six", x.count(3) + x.count(9) + x.villagerOf(0, 1), 0);
    }

    private static void whatIsNoChange() {
        Due.sentence("The changes are the calls of villager, tell, bury, meet, sleep, wake, leave, watch, tick and play");
        for (int states = 0; states <= 4; states++) {
            RumorTombs x = Villages.of(2);
            x.undo();
            x.undo();
            for (int i = 0; i < states; i++) {
                x.villager();
            }
            x.villagerOf(0, 0);
            x.entryOf(0, 0, 0);
            x.newest(0);
            x.unlike(0, 1);
            x.dead(0);
            x.ghosts(0, 1, 60);
            x.bestMeeting(0);
            x.rounds();
            x.count(0);
            x.type('n');
            x.type('1');
            x.type(';');
            x.fault(0);
            x.fault(1);
            x.clearText();
            x.clearText();
            Due.is("states", x.count(10), states);
            Due.is("undo", x.undo(), states == 0 ? Villages.IMPOSSIBLE : states - 1);
        }
    }

    private static void undoOfAnEmptyHistory() {
        Due.sentence("NOT_POSSIBLE if it is empty");
        RumorTombs x = new RumorTombs();
        Due.is("a new object", x.undo(), Villages.IMPOSSIBLE);
        Due.is("and again", x.undo(), Villages.IMPOSSIBLE);
        x.type('n');
        x.sleep(0);
        Due.is("no change yet", x.undo(), Villages.IMPOSSIBLE);
        x.villager();
        Due.is("one", x.undo(), 0);
        Due.is("no villager", x.count(0), 0);
        Due.is("it is removed", x.undo(), Villages.IMPOSSIBLE);
        Due.is("villager", x.villager(), 0);
        Due.is("one again", x.undo(), 0);
    }

    private static void undoIsNoChange() {
        Due.sentence("Restores the latest state of the history, which is removed from it");
        RumorTombs x = new RumorTombs();
        x.watch(1);
        x.watch(2);
        x.watch(3);
        Due.is("undo", x.undo(), 2);
        Due.is("the latest", x.count(4), 2);
        Due.is("undo again", x.undo(), 1);
        Due.is("the one before it", x.count(4), 1);
        x.watch(4);
        Due.is("undo of the new one", x.undo(), 1);
        Due.is("not those that were removed", x.count(4), 1);
        Due.is("the last one", x.undo(), 0);
        Due.is("at first", x.count(4), 10);
    }

    private static void theTextIsNotRestored() {
        Due.sentence("each change records everything before it but the text");
        RumorTombs x = new RumorTombs();
        x.villager();
        Villages.write(x, "s0;w0;");
        x.undo();
        Due.is("typed behind the change", x.count(11), 6);
        Due.is("there is no villager then", x.fault(1), 2);
        x.villager();
        Due.is("its signs stay", x.play(), 2);
        x.clearText();
        x.undo();
        Due.is("cleared behind the change", x.count(11), 0);
        x.undo();
        Due.is("cleared still", x.count(11), 0);
        x.type('n');
        x.type('1');
        x.type(';');
        x.play();
        x.undo();
        Due.is("the text that was played", x.count(11), 3);
        Due.is("is played again", x.play(), 1);
    }

    private static void whatNobodyHasAnyLonger() {
        Due.sentence("each change records everything before it but the text");
        RumorTombs x = Villages.of(3);
        x.tell(1, 0, 66, Villages.PLAIN);
        x.meet(1, 0);
        x.bury(0, 0);
        x.tick(10);
        Due.is("in danger", x.ghosts(0, 1, 0), 1);
        x.undo();
        Due.is("the tomb was not dropped then", x.ghosts(0, 1, 0), 0);
        Due.is("the rumor is dead", x.dead(1), 1);
        x.undo();
        Due.is("the tomb was not made then", x.dead(1), 0);
        Due.is("tombs that were made", x.count(9), 0);
        x.tell(0, 0, 67, Villages.PLAIN);
        x.tell(0, 0, 68, Villages.PLAIN);
        x.tick(60);
        Due.is("not dead, nor in danger", x.dead(1) + x.ghosts(0, 1, 0), 0);

        x = Villages.of(2);
        x.sleep(0);
        x.tick(5);
        x.wake(0);
        x.sleep(0);
        x.undo();
        x.undo();
        Due.is("asleep since then", x.villagerOf(0, 5), 5);
        x.undo();
        Due.is("asleep at once", x.villagerOf(0, 5), 0);
        x.undo();
        Due.is("awake", x.villagerOf(0, 0), 0);
    }

    private static void theLastPlaceOfTheLastBook() {
        Due.sentence("each change records everything before it but the text");
        for (int v = 0; v < 7; v += 6) {
            for (int topic = 0; topic < 12; topic += 11) {
                theLastPlace(v, topic, v == 0 ? 6 : 0);
            }
        }
    }

    private static void theLastPlace(int v, int topic, int other) {
        RumorTombs x = Villages.of(7);
        x.tick(3);
        x.tell(v, topic, 33, Villages.SECRET);
        x.bury(v, topic);
        x.tick(4);
        x.tell(v, topic, 44, Villages.WHISPERED);
        x.bury(v, topic);
        x.meet(v, other);
        Due.is("seen by two", x.entryOf(v, topic, 6), 1 << v | 1 << other);
        x.undo();
        Due.is("seen by one", x.entryOf(v, topic, 6), 1 << v);
        Due.is("not there", x.entryOf(other, topic, 0), Villages.NONE);
        Due.is("made then", x.entryOf(v, topic, 5), 7);
        x.undo();
        Due.is("the later value", x.entryOf(v, topic, 3), 44);
        Due.is("the later kind", x.entryOf(v, topic, 4), Villages.WHISPERED);
        x.undo();
        Due.is("the tomb before it", x.entryOf(v, topic, 1), 2);
        Due.is("made before", x.entryOf(v, topic, 5), 3);
        Due.is("the clock", x.villagerOf(v, 1), 2);
        Due.is("the watch is not over", x.tick(5), 0);
        Due.is("the watch is over", x.tick(1), 1);
        x.undo();
        Due.is("the tomb again", x.entryOf(v, topic, 5), 3);
        Villages.write(x, "n1;");
        x.play();
        Due.is("dropped by an order", x.entryOf(v, topic, 0), Villages.NONE);
        x.undo();
        Due.is("and again, its time", x.entryOf(v, topic, 5), 3);
        Due.is("and again, its seers", x.entryOf(v, topic, 6), 1 << v);
    }

    private static void manyChanges() {
        Due.sentence("if there are 5 states then, the oldest one is dropped");
        RumorTombs x = Villages.of(1);
        for (int value = 0; value < 100; value++) {
            x.tell(0, 0, value, Villages.PLAIN);
            if (value % 3 == 0) {
                x.undo();
                x.tell(0, 0, value, Villages.PLAIN);
            }
        }
        Due.is("an error", x.tell(0, 0, 100, Villages.PLAIN), Villages.INVALID);
        for (int back = 1; back <= 4; back++) {
            Due.is("states that are left", x.undo(), 4 - back);
            Due.is("the value then", x.entryOf(0, 0, 3), 99 - back);
            Due.is("the version then", x.entryOf(0, 0, 1), 100 - back);
        }
        Due.is("no more", x.undo(), Villages.IMPOSSIBLE);
    }
}
