import com.sun.management.ThreadMXBean;
import java.lang.management.ManagementFactory;
import java.util.ArrayList;
import java.util.List;
import java.util.function.ToIntFunction;

/** What a run of calls makes is counted (LANGUAGE.md, rule 12): no call makes any object or array. */
public final class RoomTest {
    private static final ThreadMXBean THREADS = (ThreadMXBean) ManagementFactory.getThreadMXBean();
    private static final int ROOM_OF_ONE = 40000;

    public static void main(String[] args) {
        // The first time the machine itself makes things of its own.
        made();
        RumorTombs warm = busy();
        calls().forEach(call -> call.applyAsInt(warm));
        Due.is("a new object makes more than its room", made() <= ROOM_OF_ONE ? 0 : 1, 0);
        List<ToIntFunction<RumorTombs>> calls = calls();
        for (int i = 0; i < calls.size(); i++) {
            RumorTombs x = busy();
            ToIntFunction<RumorTombs> call = calls.get(i);
            long before = THREADS.getCurrentThreadAllocatedBytes();
            for (int times = 0; times < 150; times++) {
                call.applyAsInt(x);
            }
            long bytes = THREADS.getCurrentThreadAllocatedBytes() - before;
            Due.is("call " + i + " makes " + bytes + " bytes", bytes < 150 * 8 ? 0 : 1, 0);
        }
        Due.end();
    }

    private static long made() {
        long before = THREADS.getCurrentThreadAllocatedBytes();
        RumorTombs x = new RumorTombs();
        long bytes = THREADS.getCurrentThreadAllocatedBytes() - before;
        Due.is("villagers", x.count(0), 0);
        return bytes;
    }

    private static RumorTombs busy() {
        RumorTombs x = Villages.of(6);
        for (int v = 0; v < 6; v++) {
            Villages.tellAll(x, v);
        }
        Villages.write(x, "s5;w5;".repeat(10));
        return x;
    }

    private static List<ToIntFunction<RumorTombs>> calls() {
        List<ToIntFunction<RumorTombs>> all = new ArrayList<>();
        all.add(x -> x.villager());
        all.add(x -> x.sleep(0) + x.wake(0));
        all.add(x -> x.leave(3));
        all.add(x -> x.watch(5));
        all.add(x -> x.villagerOf(0, 2));
        all.add(x -> x.tell(0, 0, 0, 0) + x.bury(0, 0));
        all.add(x -> x.meet(0, 1));
        all.add(x -> x.entryOf(0, 0, 7));
        all.add(x -> x.tick(1));
        all.add(x -> x.newest(0));
        all.add(x -> x.unlike(0, 1));
        all.add(x -> x.dead(0));
        all.add(x -> x.ghosts(0, 1, 60));
        all.add(x -> x.bestMeeting(0));
        all.add(x -> x.rounds());
        all.add(x -> x.count(7));
        all.add(x -> x.undo());
        all.add(x -> x.fault(0));
        all.add(x -> x.play());
        all.add(x -> x.type(';') + x.clearText());
        return all;
    }
}
