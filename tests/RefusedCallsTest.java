import java.util.function.Supplier;
import java.util.function.ToIntFunction;

/**
 * Which error is returned when several apply, and that a call that returns an error changes nothing; nor
 * does one that only tells something. Every call is looked at in several villages, with all of its errors.
 */
public final class RefusedCallsTest {
    private static final int[] FAR = {Integer.MIN_VALUE, -1, Integer.MAX_VALUE};

    private static Supplier<RumorTombs> maker;
    private static String unchanged;

    public static void main(String[] args) {
        Due.sentence("A call that returns an error changes nothing");
        constants();
        inAnEmptyVillage();
        inAVillage();
        withAFaultInTheText();
        whereAllIsFull();
        atTheLastTick();
        withOneAwake();
        withNobodyLeft();
        Due.end();
    }

    private static void begin(Supplier<RumorTombs> village) {
        maker = village;
        unchanged = Look.atAll(village);
    }

    /** The call answers this error, and all is as if it had not been made. */
    private static void refused(int error, String name, ToIntFunction<RumorTombs> call) {
        Due.is(name, call.applyAsInt(maker.get()), error);
        quiet(name, call);
    }

    private static void quiet(String name, ToIntFunction<RumorTombs> call) {
        String behind = Look.atAll(() -> {
            RumorTombs x = maker.get();
            call.applyAsInt(x);
            return x;
        });
        Due.is("something was changed by " + name, behind.equals(unchanged) ? 0 : 1, 0);
    }

    private static void invalid(String name, ToIntFunction<RumorTombs> call) {
        refused(Villages.INVALID, name, call);
    }

    private static void impossible(String name, ToIntFunction<RumorTombs> call) {
        refused(Villages.IMPOSSIBLE, name, call);
    }

    private static void limit(String name, ToIntFunction<RumorTombs> call) {
        refused(Villages.LIMIT, name, call);
    }

    private static void none(String name, ToIntFunction<RumorTombs> call) {
        refused(Villages.NONE, name, call);
    }

    private static void constants() {
        Due.is("INVALID_ARGUMENT", RumorTombs.INVALID_ARGUMENT, -1000001);
        Due.is("NOT_POSSIBLE", RumorTombs.NOT_POSSIBLE, -1000002);
        Due.is("LIMIT_REACHED", RumorTombs.LIMIT_REACHED, -1000003);
        Due.is("NOT_FOUND", RumorTombs.NOT_FOUND, -1000004);
    }

    private static void inAnEmptyVillage() {
        begin(RumorTombs::new);
        noVillager(0);
        for (int far : FAR) {
            noVillager(far);
        }
        impossible("undo", x -> x.undo());
        none("newest(0)", x -> x.newest(0));
        none("bestMeeting(0)", x -> x.bestMeeting(0));
        none("bestMeeting(1)", x -> x.bestMeeting(1));
        invalid("bestMeeting(2), though fewer than two are awake", x -> x.bestMeeting(2));
        none("fault(0)", x -> x.fault(0));
        none("fault(1)", x -> x.fault(1));
        invalid("fault(2), though there is no fault", x -> x.fault(2));
        invalid("tick(0)", x -> x.tick(0));
        invalid("type(31)", x -> x.type(31));
        quiet("clearText", x -> x.clearText());
        quiet("rounds", x -> x.rounds());
    }

    private static void noVillager(int v) {
        String number = "(" + v;
        invalid("sleep" + number, x -> x.sleep(v));
        invalid("wake" + number, x -> x.wake(v));
        invalid("leave" + number, x -> x.leave(v));
        invalid("villagerOf" + number + ", 0)", x -> x.villagerOf(v, 0));
        invalid("villagerOf" + number + ", 5)", x -> x.villagerOf(v, 5));
        invalid("tell" + number, x -> x.tell(v, 0, 0, 0));
        invalid("bury" + number, x -> x.bury(v, 0));
        invalid("meet" + number + ", 0)", x -> x.meet(v, 0));
        invalid("meet(0, " + v, x -> x.meet(0, v));
        invalid("entryOf" + number, x -> x.entryOf(v, 0, 0));
        invalid("unlike" + number + ", 0)", x -> x.unlike(v, 0));
        invalid("unlike(0, " + v, x -> x.unlike(0, v));
        invalid("dead" + number, x -> x.dead(v));
        invalid("ghosts" + number + ", 0)", x -> x.ghosts(v, 0, 0));
        invalid("ghosts(0, " + v, x -> x.ghosts(0, v, 0));
    }

    /**
     * Five villagers: 1 is asleep and 2 is gone. 4 has dropped its tomb of topic 0, that 3 has, too; 3 has
     * a tomb of topic 3 still. The history is full, and the text has no fault.
     */
    private static RumorTombs village() {
        RumorTombs x = Villages.of(5);
        x.tell(0, 0, 10, Villages.PLAIN);
        x.tell(0, 1, 11, Villages.WHISPERED);
        x.tell(0, 2, 12, Villages.SECRET);
        x.tell(3, 3, 13, Villages.PLAIN);
        x.tell(2, 4, 14, Villages.PLAIN);
        x.meet(0, 3);
        x.meet(3, 4);
        x.meet(0, 1);
        x.bury(4, 0);
        x.meet(4, 3);
        x.tick(5);
        x.bury(3, 3);
        x.sleep(1);
        x.tick(5);
        x.leave(2);
        Villages.write(x, "t0,5,50;n1;m0,3;");
        return x;
    }

    private static void inAVillage() {
        begin(RefusedCallsTest::village);
        noVillager(5);
        villagersOfTheVillage();
        entriesOfTheVillage();
        meetingsOfTheVillage();
        othersOfTheVillage();
        questionsOfTheVillage();
    }

    private static void villagersOfTheVillage() {
        impossible("sleep, asleep", x -> x.sleep(1));
        impossible("sleep, gone", x -> x.sleep(2));
        impossible("wake, awake", x -> x.wake(0));
        impossible("wake, gone", x -> x.wake(2));
        impossible("leave, gone", x -> x.leave(2));
        none("villagerOf(0, 5), awake", x -> x.villagerOf(0, 5));
        none("villagerOf(2, 5), gone", x -> x.villagerOf(2, 5));
        invalid("villagerOf(0, 6), though awake", x -> x.villagerOf(0, 6));
        invalid("villagerOf(0, -1), though awake", x -> x.villagerOf(0, -1));
        for (int ticks : new int[] {0, 61, Integer.MIN_VALUE, -1, Integer.MAX_VALUE}) {
            invalid("watch(" + ticks, x -> x.watch(ticks));
            invalid("tick(" + ticks, x -> x.tick(ticks));
        }
    }

    private static void entriesOfTheVillage() {
        for (int v = 0; v < 3; v++) {
            int who = v;
            String name = "(" + v + ", ..";
            for (int far : new int[] {Integer.MIN_VALUE, -1, 12, Integer.MAX_VALUE}) {
                invalid("tell" + name + " topic " + far, x -> x.tell(who, far, 0, 0));
                invalid("bury" + name + " topic " + far, x -> x.bury(who, far));
                invalid("entryOf" + name + " topic " + far, x -> x.entryOf(who, far, 0));
            }
            for (int far : new int[] {Integer.MIN_VALUE, -1, 100, Integer.MAX_VALUE}) {
                invalid("tell" + name + " value " + far, x -> x.tell(who, 0, far, 0));
            }
            for (int far : new int[] {Integer.MIN_VALUE, -1, 3, Integer.MAX_VALUE}) {
                invalid("tell" + name + " kind " + far, x -> x.tell(who, 0, 0, far));
            }
            invalid("entryOf" + name + " what -1", x -> x.entryOf(who, 7, -1));
            invalid("entryOf" + name + " what 8", x -> x.entryOf(who, 7, 8));
        }
        impossible("tell, asleep", x -> x.tell(1, 0, 0, 0));
        impossible("tell, gone", x -> x.tell(2, 0, 0, 0));
        impossible("bury, asleep", x -> x.bury(1, 0));
        impossible("bury, asleep and no rumor", x -> x.bury(1, 7));
        impossible("bury, gone", x -> x.bury(2, 4));
        impossible("bury, no entry", x -> x.bury(0, 7));
        impossible("bury, a tomb", x -> x.bury(3, 3));
        impossible("bury, a tomb that was dropped", x -> x.bury(4, 0));
        none("entryOf, no entry", x -> x.entryOf(0, 7, 0));
        none("entryOf, no entry, 7", x -> x.entryOf(0, 7, 7));
        none("entryOf, a rumor, 5", x -> x.entryOf(0, 0, 5));
        none("entryOf, a rumor, 6", x -> x.entryOf(0, 0, 6));
        none("entryOf, a tomb, 3", x -> x.entryOf(3, 3, 3));
        none("entryOf, a tomb, 4", x -> x.entryOf(3, 3, 4));
        none("entryOf, a tomb, 7", x -> x.entryOf(3, 3, 7));
        none("entryOf, a tomb that was dropped", x -> x.entryOf(4, 0, 0));
    }

    private static void meetingsOfTheVillage() {
        impossible("meet, other asleep", x -> x.meet(0, 1));
        impossible("meet, one asleep", x -> x.meet(1, 0));
        impossible("meet, other gone", x -> x.meet(0, 2));
        impossible("meet, one gone", x -> x.meet(2, 0));
        impossible("meet, asleep and gone", x -> x.meet(1, 2));
        invalid("meet, the same", x -> x.meet(0, 0));
        invalid("meet, the same, though asleep", x -> x.meet(1, 1));
        invalid("meet, the same, though gone", x -> x.meet(2, 2));
        invalid("meet, no such other, though one is asleep", x -> x.meet(1, 5));
        invalid("meet, no such one, though the other is gone", x -> x.meet(-1, 2));
        impossible("ghosts, other gone", x -> x.ghosts(0, 2, 0));
        impossible("ghosts, one gone", x -> x.ghosts(2, 1, 60));
        invalid("ghosts, the same", x -> x.ghosts(0, 0, 0));
        invalid("ghosts, the same, though gone", x -> x.ghosts(2, 2, 0));
        invalid("ghosts, no such other, though one is gone", x -> x.ghosts(2, 5, 0));
        for (int ticks : new int[] {Integer.MIN_VALUE, -1, 61, Integer.MAX_VALUE}) {
            invalid("ghosts, ticks " + ticks, x -> x.ghosts(0, 1, ticks));
            invalid("ghosts, one gone, ticks " + ticks, x -> x.ghosts(2, 0, ticks));
            invalid("ghosts, the same, ticks " + ticks, x -> x.ghosts(0, 0, ticks));
        }
    }

    private static void othersOfTheVillage() {
        for (int far : new int[] {Integer.MIN_VALUE, -1, 12, Integer.MAX_VALUE}) {
            invalid("newest(" + far, x -> x.newest(far));
            invalid("count(" + far, x -> x.count(far));
        }
        for (int far : new int[] {Integer.MIN_VALUE, -1, 2, Integer.MAX_VALUE}) {
            invalid("bestMeeting(" + far, x -> x.bestMeeting(far));
            invalid("fault(" + far, x -> x.fault(far));
        }
        for (int far : new int[] {Integer.MIN_VALUE, -1, 0, 31, 127, 65536 + ';', Integer.MAX_VALUE}) {
            invalid("type(" + far, x -> x.type(far));
        }
        none("newest, no entry of it", x -> x.newest(7));
        none("newest, who had it is gone", x -> x.newest(4));
        none("fault(0)", x -> x.fault(0));
        none("fault(1)", x -> x.fault(1));
    }

    private static void questionsOfTheVillage() {
        for (int what = 0; what <= 7; what++) {
            int asked = what;
            quiet("villagerOf(1, " + what, x -> x.villagerOf(1, asked));
            quiet("entryOf(0, 0, " + what, x -> x.entryOf(0, 0, asked));
            quiet("entryOf(3, 3, " + what, x -> x.entryOf(3, 3, asked));
        }
        for (int what = 0; what <= 11; what++) {
            int asked = what;
            quiet("count(" + what, x -> x.count(asked));
            quiet("newest(" + what, x -> x.newest(asked));
        }
        quiet("unlike", x -> x.unlike(0, 4));
        quiet("dead", x -> x.dead(0));
        quiet("ghosts behind 0", x -> x.ghosts(0, 4, 0));
        quiet("ghosts behind 60", x -> x.ghosts(4, 3, 60));
        quiet("bestMeeting", x -> x.bestMeeting(0));
        quiet("rounds", x -> x.rounds());
        Due.is("ghosts, one walks", village().ghosts(0, 4, 0), 1);
        Due.is("bestMeeting, some are passed", village().bestMeeting(1) > 0 ? 1 : 0, 1);
    }

    private static void withAFaultInTheText() {
        String[] faults = {"t0,5,50;n1;s0;s0;", "n60;b0,0;m0,5;", "m0,3;n6", ";", "w1;leave"};
        for (String text : faults) {
            begin(() -> {
                RumorTombs x = village();
                Villages.write(x, text);
                return x;
            });
            impossible("play of " + text, x -> x.play());
            invalid("fault(2) of " + text, x -> x.fault(2));
            quiet("fault(0) of " + text, x -> x.fault(0));
            quiet("fault(1) of " + text, x -> x.fault(1));
        }
    }

    /** 7 villagers, all topics in a book, and 60 characters, each of which matters. */
    private static RumorTombs full() {
        RumorTombs x = Villages.of(7);
        Villages.tellAll(x, 0);
        for (int v = 1; v < 7; v++) {
            x.meet(v - 1, v);
        }
        x.bury(6, 11);
        Villages.write(x, "t0,11,99;m0,6;b0,1;m0,5;s0;n12;w0;t6,10,7;b5,10;m5,6;s4;n10;");
        return x;
    }

    private static void whereAllIsFull() {
        begin(RefusedCallsTest::full);
        Due.is("the length", full().count(11), 60);
        Due.is("no fault", full().fault(0), Villages.NONE);
        limit("villager, the eighth", x -> x.villager());
        limit("type, the 61st", x -> x.type(';'));
        limit("type, the 61st, lowest", x -> x.type(32));
        limit("type, the 61st, highest", x -> x.type(126));
        invalid("type(31), though the text is full", x -> x.type(31));
        invalid("type(127), though the text is full", x -> x.type(127));
        noVillager(7);
        begin(() -> {
            RumorTombs x = full();
            x.leave(3);
            return x;
        });
        limit("villager, the eighth, though one is gone", x -> x.villager());
    }

    private static void atTheLastTick() {
        begin(() -> {
            RumorTombs x = village();
            Villages.passMostTime(x);
            x.tick(60);
            x.tick(29);
            Villages.write(x, "t0,6,60;b0,6;m0,4;");
            return x;
        });
        Due.is("the time", maker.get().count(3), 99999);
        limit("tick(2) at 99999", x -> x.tick(2));
        limit("tick(60) at 99999", x -> x.tick(60));
        invalid("tick(61), though the time would be above 100000", x -> x.tick(61));
        invalid("tick(0) at 99999", x -> x.tick(0));
    }

    private static void withOneAwake() {
        begin(() -> {
            RumorTombs x = village();
            x.sleep(3);
            x.sleep(0);
            return x;
        });
        none("bestMeeting(0)", x -> x.bestMeeting(0));
        none("bestMeeting(1)", x -> x.bestMeeting(1));
        invalid("bestMeeting(2), though only one is awake", x -> x.bestMeeting(2));
        invalid("bestMeeting(-1), though only one is awake", x -> x.bestMeeting(-1));
    }

    private static void withNobodyLeft() {
        begin(() -> {
            RumorTombs x = Villages.of(2);
            x.tell(0, 0, 1, Villages.PLAIN);
            x.leave(0);
            x.leave(1);
            x.undo();
            x.leave(1);
            return x;
        });
        impossible("leave again", x -> x.leave(0));
        impossible("meet", x -> x.meet(0, 1));
        impossible("ghosts", x -> x.ghosts(0, 1, 1));
        none("newest", x -> x.newest(0));
        none("bestMeeting", x -> x.bestMeeting(1));
    }
}
