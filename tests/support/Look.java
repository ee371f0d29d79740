import java.util.ArrayList;
import java.util.List;
import java.util.function.Supplier;
import java.util.function.ToIntFunction;

/**
 * All that can be seen of an object, told as a text. New objects are made again and again, since one is
 * used for at most 512 calls; so a maker may take some 250 calls.
 */
public final class Look {
    private static final int QUESTIONS_TO_ONE = 200;
    private static final List<ToIntFunction<RumorTombs>> QUESTIONS = questions();

    private Look() {
    }

    /** The present state, the states of the history, and the text. */
    public static String atAll(Supplier<RumorTombs> maker) {
        StringBuilder all = new StringBuilder();
        for (int back = 0; back <= 5; back++) {
            int undos = back;
            all.append("| ").append(at(() -> undone(maker.get(), undos)));
        }
        return all.toString();
    }

    /** The present state and the text, but not how many states are in the history. */
    public static String at(Supplier<RumorTombs> maker) {
        StringBuilder all = new StringBuilder();
        RumorTombs x = null;
        for (int i = 0; i < QUESTIONS.size(); i++) {
            if (i % QUESTIONS_TO_ONE == 0) {
                x = maker.get();
            }
            all.append(QUESTIONS.get(i).applyAsInt(x)).append(' ');
        }
        all.append(whatAnotherWouldFind(maker.get()));
        all.append(whatTheTextDoes(maker.get()));
        return all.toString();
    }

    private static RumorTombs undone(RumorTombs x, int undos) {
        for (int i = 0; i < undos; i++) {
            x.undo();
        }
        return x;
    }

    private static List<ToIntFunction<RumorTombs>> questions() {
        List<ToIntFunction<RumorTombs>> all = new ArrayList<>();
        for (int v : upTo(6)) {
            for (int what : upTo(5)) {
                all.add(x -> x.villagerOf(v, what));
            }
            for (int topic : upTo(11)) {
                for (int what : upTo(7)) {
                    all.add(x -> x.entryOf(v, topic, what));
                }
            }
            for (int other : upTo(6)) {
                all.add(x -> x.unlike(v, other));
                for (int ticks : new int[] {0, 1, 5, 60}) {
                    all.add(x -> x.ghosts(v, other, ticks));
                }
            }
            all.add(x -> x.dead(v));
        }
        for (int topic : upTo(11)) {
            all.add(x -> x.newest(topic));
        }
        for (int what : upTo(11)) {
            all.add(x -> what == 10 ? 0 : x.count(what));
        }
        for (int what : upTo(1)) {
            all.add(x -> x.bestMeeting(what));
            all.add(x -> x.fault(what));
        }
        all.add(RumorTombs::rounds);
        return all;
    }

    private static int[] upTo(int last) {
        int[] numbers = new int[last + 1];
        for (int i = 0; i <= last; i++) {
            numbers[i] = i;
        }
        return numbers;
    }

    /** Tombs that nobody has any longer show by rumors that are dead from the start. */
    private static String whatAnotherWouldFind(RumorTombs x) {
        StringBuilder found = new StringBuilder();
        int another = x.villager();
        found.append(another).append(' ');
        for (int topic : upTo(11)) {
            found.append(x.tell(another, topic, 1, 0)).append(' ');
            found.append(x.dead(another)).append(' ');
            x.undo();
        }
        return found.toString();
    }

    /** The signs of the text show by what they do. */
    private static String whatTheTextDoes(RumorTombs x) {
        StringBuilder done = new StringBuilder();
        done.append(x.play()).append(' ');
        for (int i = 0; i < 78; i++) {
            done.append(QUESTIONS.get(i * (QUESTIONS.size() / 78)).applyAsInt(x)).append(' ');
        }
        for (int what : upTo(9)) {
            done.append(x.count(what)).append(' ');
        }
        done.append(x.clearText()).append(' ');
        return done.toString();
    }
}
