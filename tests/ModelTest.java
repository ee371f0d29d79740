import java.util.Random;

/** Long runs of calls by chance (the same ones each time), each answer compared with the model's. */
public final class ModelTest {
    private static final int RUNS = 3000;
    private static final int CALLS = 512;
    private static final int[] FAR = {Integer.MIN_VALUE, Integer.MIN_VALUE + 1, -1000, -1, 7, 8, 12, 60, 61, 100, 127,
        1000, 65536, Integer.MAX_VALUE};

    private final Random chance;
    private final RumorTombs real = new RumorTombs();
    private final Model model = new Model();
    private final StringBuilder calls = new StringBuilder();
    // How many villagers and topics the run uses: few of them make more conflicts.
    private final int villagers;
    private final int topics;
    private final int wildness;
    private String waiting = "";

    private ModelTest(long seed) {
        chance = new Random(seed);
        villagers = 2 + chance.nextInt(6);
        topics = 1 + chance.nextInt(12);
        wildness = chance.nextInt(4) == 0 ? 6 : 60;
    }

    public static void main(String[] args) {
        for (int run = 0; run < RUNS && Due.allRight(); run++) {
            new ModelTest(run).run();
        }
        Due.end();
    }

    private void run() {
        for (int i = 0; i < villagers; i++) {
            compare(0, 0, 0, 0, 0);
        }
        for (int i = villagers; i < CALLS && Due.allRight(); i++) {
            step();
        }
        if (!Due.allRight()) {
            System.out.println("the calls were:" + calls);
        }
    }

    private void step() {
        if (!waiting.isEmpty()) {
            compare(19, waiting.charAt(0), 0, 0, 0);
            waiting = waiting.substring(1);
            return;
        }
        int dice = chance.nextInt(100);
        if (dice < 20) {
            compare(6, someone(), topic(), number(100), number(3));
        } else if (dice < 32) {
            compare(7, someone(), topic(), 0, 0);
        } else if (dice < 54) {
            compare(8, someone(), someone(), 0, 0);
        } else if (dice < 60) {
            compare(10, 1 + number(chance.nextInt(4) == 0 ? 60 : 5), 0, 0, 0);
        } else if (dice < 62) {
            newText();
        } else {
            any(chance.nextInt(23));
        }
    }

    private void any(int call) {
        boolean seldom = call == 0 || call == 3 || call == 18;
        if (seldom && chance.nextInt(4) != 0) {
            return;
        }
        switch (call) {
            case 4 -> compare(4, 1 + number(12), 0, 0, 0);
            case 5 -> compare(5, someone(), number(6), 0, 0);
            case 9 -> compare(9, someone(), topic(), number(8), 0);
            case 10 -> compare(10, 1 + number(60), 0, 0, 0);
            case 11 -> compare(11, topic(), 0, 0, 0);
            case 12, 8 -> compare(call, someone(), someone(), 0, 0);
            case 14 -> compare(14, someone(), someone(), number(61), 0);
            case 15, 21 -> compare(call, number(2), 0, 0, 0);
            case 17 -> compare(17, number(12), 0, 0, 0);
            case 19 -> compare(19, 32 + number(95), 0, 0, 0);
            default -> compare(call, someone(), topic(), number(100), number(3));
        }
    }

    private void newText() {
        StringBuilder text = new StringBuilder();
        for (int i = chance.nextInt(12); i > 0; i--) {
            text.append(order());
        }
        if (chance.nextInt(4) == 0 && text.length() > 0) {
            text.setCharAt(chance.nextInt(text.length()), "tbmswn,;0123456789 ~".charAt(chance.nextInt(20)));
        }
        if (chance.nextInt(2) == 0) {
            compare(20, 0, 0, 0, 0);
        }
        waiting = text.toString();
    }

    private String order() {
        return switch (chance.nextInt(6)) {
            case 0 -> "t" + named(villagers) + "," + named(topics) + "," + named(100) + ";";
            case 1 -> "b" + named(villagers) + "," + named(topics) + ";";
            case 2 -> "m" + named(villagers) + "," + named(villagers) + ";";
            case 3 -> "s" + named(villagers) + ";";
            case 4 -> "w" + named(villagers) + ";";
            default -> "n" + named(chance.nextInt(4) == 0 ? 62 : 9) + ";";
        };
    }

    private String named(int bound) {
        int number = chance.nextInt(30) == 0 ? chance.nextInt(120) : chance.nextInt(bound);
        return number < 10 && chance.nextInt(5) == 0 ? "0" + number : "" + number;
    }

    private int someone() {
        return number(villagers);
    }

    private int topic() {
        return number(topics);
    }

    private int number(int bound) {
        if (chance.nextInt(wildness) == 0) {
            return chance.nextBoolean() ? bound : FAR[chance.nextInt(FAR.length)];
        }
        return chance.nextInt(bound);
    }

    private void compare(int call, int a, int b, int c, int d) {
        long got;
        long want;
        switch (call) {
            case 0 -> { got = real.villager(); want = model.villager(); }
            case 1 -> { got = real.sleep(a); want = model.sleep(a); }
            case 2 -> { got = real.wake(a); want = model.wake(a); }
            case 3 -> { got = real.leave(a); want = model.leave(a); }
            case 4 -> { got = real.watch(a); want = model.watch(a); }
            case 5 -> { got = real.villagerOf(a, b); want = model.villagerOf(a, b); }
            case 6 -> { got = real.tell(a, b, c, d); want = model.tell(a, b, c, d); }
            case 7 -> { got = real.bury(a, b); want = model.bury(a, b); }
            case 8 -> { got = real.meet(a, b); want = model.meet(a, b); }
            case 9 -> { got = real.entryOf(a, b, c); want = model.entryOf(a, b, c); }
            case 10 -> { got = real.tick(a); want = model.tick(a); }
            case 11 -> { got = real.newest(a); want = model.newest(a); }
            case 12 -> { got = real.unlike(a, b); want = model.unlike(a, b); }
            case 13 -> { got = real.dead(a); want = model.dead(a); }
            case 14 -> { got = real.ghosts(a, b, c); want = model.ghosts(a, b, c); }
            case 15 -> { got = real.bestMeeting(a); want = model.bestMeeting(a); }
            case 16 -> { got = real.rounds(); want = model.rounds(); }
            case 17 -> { got = real.count(a); want = model.count(a); }
            case 18 -> { got = real.undo(); want = model.undo(); }
            case 19 -> { got = real.type(a); want = model.type(a); }
            case 20 -> { got = real.clearText(); want = model.clearText(); }
            case 21 -> { got = real.fault(a); want = model.fault(a); }
            default -> { got = real.play(); want = model.play(); }
        }
        String name = "call " + call + " (" + a + ", " + b + ", " + c + ", " + d + ")";
        calls.append("\n").append(name);
        Due.is(name, got, want);
    }
}
