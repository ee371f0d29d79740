/** Each promise of the document by itself: ordinary inputs, the edges that it names, wrong inputs. */
public final class PromiseTest {
    private static final int INVALID = Villages.INVALID;
    private static final int IMPOSSIBLE = Villages.IMPOSSIBLE;
    private static final int LIMIT = Villages.LIMIT;
    private static final int NONE = Villages.NONE;

    private static final int PLAIN = Villages.PLAIN;
    private static final int WHISPERED = Villages.WHISPERED;
    private static final int SECRET = Villages.SECRET;

    private static final int[] FAR = {Integer.MIN_VALUE, -1, Integer.MAX_VALUE};

    public static void main(String[] args) {
        newObject();
        villager();
        sleep();
        wake();
        leave();
        watch();
        villagerOf();
        tell();
        bury();
        meetPassesTheNewer();
        meetKeepsWhispers();
        meetSharesSight();
        meetErrors();
        entryOf();
        tickDropsSeenTombs();
        tickDropsOldTombs();
        tickErrors();
        newest();
        unlike();
        dead();
        ghostsThatWalk();
        ghostsThatDoNot();
        ghostsThatWould();
        bestMeeting();
        rounds();
        count();
        undo();
        undoRestoresEverything();
        sevenVillagers();
        type();
        clearText();
        faultForm();
        faultNames();
        faultOtherwise();
        play();
        timeLimit();
        Due.end();
    }

    private static void faultIs(RumorTombs x, String text, int position, int reason) {
        Villages.write(x, text);
        Due.is("fault(0) of " + text, x.fault(0), position);
        Due.is("fault(1) of " + text, x.fault(1), reason);
        Due.is("play() of " + text, x.play(), IMPOSSIBLE);
    }

    private static void noFault(RumorTombs x, String text) {
        Villages.write(x, text);
        Due.is("fault(0) of " + text, x.fault(0), NONE);
        Due.is("fault(1) of " + text, x.fault(1), NONE);
    }

    private static void newObject() {
        RumorTombs x = new RumorTombs();
        for (int what = 0; what <= 11; what++) {
            Due.is("1: count(" + what + ")", x.count(what), what == 4 ? 10 : 0);
        }
        Due.is("1: villagerOf(0, 0)", x.villagerOf(0, 0), INVALID);
        Due.is("1: rounds()", x.rounds(), 0);
        Due.is("1: undo()", x.undo(), IMPOSSIBLE);
        Due.is("1: fault(0)", x.fault(0), NONE);
    }

    private static void villager() {
        RumorTombs x = new RumorTombs();
        for (int i = 0; i < 7; i++) {
            Due.is("2: villager()", x.villager(), i);
            Due.is("2: awake", x.villagerOf(i, 0), 0);
            Due.is("2: clock", x.villagerOf(i, 1), 0);
            Due.is("2: rumors", x.villagerOf(i, 2), 0);
            Due.is("2: tombs", x.villagerOf(i, 3), 0);
        }
        Due.is("2: the eighth", x.villager(), LIMIT);
        x.leave(3);
        Due.is("2: the eighth, one is gone", x.villager(), LIMIT);
        Due.is("2: count(0)", x.count(0), 7);
    }

    private static void sleep() {
        RumorTombs x = Villages.of(3);
        Due.is("3: sleep(1)", x.sleep(1), 2);
        Due.is("3: state", x.villagerOf(1, 0), 1);
        Due.is("3: sleep(1) again", x.sleep(1), IMPOSSIBLE);
        Due.is("3: sleep(0)", x.sleep(0), 1);
        x.leave(2);
        Due.is("3: of one gone", x.sleep(2), IMPOSSIBLE);
        Due.is("3: sleep(3)", x.sleep(3), INVALID);
        for (int far : FAR) {
            Due.is("3: sleep(" + far + ")", x.sleep(far), INVALID);
        }
        Due.is("3: errors are no changes", x.count(2), 2);
    }

    private static void wake() {
        RumorTombs x = Villages.of(3);
        x.tick(5);
        x.sleep(0);
        Due.is("4: at once", x.wake(0), 0);
        Due.is("4: of one awake", x.wake(0), IMPOSSIBLE);
        x.sleep(0);
        x.tick(7);
        x.sleep(1);
        x.tick(6);
        Due.is("4: wake(0)", x.wake(0), 13);
        Due.is("4: wake(1)", x.wake(1), 6);
        Due.is("4: state", x.villagerOf(0, 0), 0);
        x.sleep(1);
        x.leave(1);
        Due.is("4: of one gone", x.wake(1), IMPOSSIBLE);
        Due.is("4: wake(3)", x.wake(3), INVALID);
        for (int far : FAR) {
            Due.is("4: wake(" + far + ")", x.wake(far), INVALID);
        }
    }

    private static void leave() {
        RumorTombs x = Villages.of(3);
        x.tell(1, 4, 40, PLAIN);
        x.tell(1, 5, 50, PLAIN);
        x.bury(1, 5);
        x.sleep(2);
        Due.is("5: leave(1)", x.leave(1), 2);
        Due.is("5: state", x.villagerOf(1, 0), 2);
        Due.is("5: rumors", x.villagerOf(1, 2), 0);
        Due.is("5: tombs", x.villagerOf(1, 3), 0);
        Due.is("5: clock stays", x.villagerOf(1, 1), 3);
        Due.is("5: entryOf", x.entryOf(1, 4, 0), NONE);
        Due.is("5: newest", x.newest(4), NONE);
        Due.is("5: leave(1) again", x.leave(1), IMPOSSIBLE);
        Due.is("5: of one asleep", x.leave(2), 1);
        Due.is("5: the last one", x.leave(0), 0);
        Due.is("5: leave(3)", x.leave(3), INVALID);
        for (int far : FAR) {
            Due.is("5: leave(" + far + ")", x.leave(far), INVALID);
        }
    }

    private static void watch() {
        RumorTombs x = new RumorTombs();
        Due.is("6: watch(1)", x.watch(1), 10);
        Due.is("6: watch(60)", x.watch(60), 1);
        Due.is("6: watch(61)", x.watch(61), INVALID);
        Due.is("6: watch(0)", x.watch(0), INVALID);
        for (int far : FAR) {
            Due.is("6: watch(" + far + ")", x.watch(far), INVALID);
        }
        Due.is("6: count(4)", x.count(4), 60);
        Due.is("6: the same is a change, too", x.watch(60), 60);
        Due.is("6: states", x.count(10), 3);
    }

    private static void villagerOf() {
        RumorTombs x = Villages.of(2);
        x.tell(0, 0, 5, PLAIN);
        x.tell(0, 11, 5, SECRET);
        x.tell(0, 3, 5, PLAIN);
        x.bury(0, 3);
        x.tell(1, 1, 5, PLAIN);
        Due.is("7: clock", x.villagerOf(0, 1), 4);
        Due.is("7: rumors", x.villagerOf(0, 2), 1 | 1 << 11);
        Due.is("7: tombs", x.villagerOf(0, 3), 1 << 3);
        Due.is("7: clock of 1", x.villagerOf(1, 1), 1);
        Due.is("7: slept, awake", x.villagerOf(0, 5), NONE);
        x.sleep(0);
        x.tick(4);
        Due.is("7: slept", x.villagerOf(0, 5), 4);
        Due.is("7: asleep", x.villagerOf(0, 0), 1);
        x.leave(0);
        Due.is("7: slept, gone", x.villagerOf(0, 5), NONE);
        Due.is("7: gone", x.villagerOf(0, 0), 2);
        Due.is("7: what 6", x.villagerOf(0, 6), INVALID);
        Due.is("7: villager 2", x.villagerOf(2, 0), INVALID);
        Due.is("7: villager 2, slept", x.villagerOf(2, 5), INVALID);
        for (int far : FAR) {
            Due.is("7: villager " + far, x.villagerOf(far, 0), INVALID);
            Due.is("7: what " + far, x.villagerOf(0, far), INVALID);
        }
    }

    private static void tell() {
        RumorTombs x = Villages.of(2);
        Due.is("8: first", x.tell(0, 11, 99, SECRET), 1);
        Due.is("8: second", x.tell(0, 0, 0, PLAIN), 2);
        Due.is("8: in its place", x.tell(0, 11, 98, WHISPERED), 3);
        Due.is("8: version", x.entryOf(0, 11, 1), 3);
        Due.is("8: author", x.entryOf(0, 11, 2), 0);
        Due.is("8: value", x.entryOf(0, 11, 3), 98);
        Due.is("8: kind", x.entryOf(0, 11, 4), WHISPERED);
        Due.is("8: by another", x.tell(1, 0, 1, PLAIN), 1);
        x.bury(1, 0);
        Due.is("8: in the place of a tomb", x.tell(1, 0, 2, PLAIN), 3);
        Due.is("8: a rumor again", x.entryOf(1, 0, 0), 0);
        x.sleep(1);
        Due.is("8: asleep", x.tell(1, 0, 1, PLAIN), IMPOSSIBLE);
        x.leave(1);
        Due.is("8: gone", x.tell(1, 0, 1, PLAIN), IMPOSSIBLE);
        Due.is("8: gone and kind 3", x.tell(1, 0, 1, 3), INVALID);
        Due.is("8: villager 2", x.tell(2, 0, 1, PLAIN), INVALID);
        Due.is("8: topic 12", x.tell(0, 12, 1, PLAIN), INVALID);
        Due.is("8: value 100", x.tell(0, 0, 100, PLAIN), INVALID);
        Due.is("8: kind 3", x.tell(0, 0, 1, 3), INVALID);
        for (int far : FAR) {
            Due.is("8: villager " + far, x.tell(far, 0, 1, PLAIN), INVALID);
            Due.is("8: topic " + far, x.tell(0, far, 1, PLAIN), INVALID);
            Due.is("8: value " + far, x.tell(0, 0, far, PLAIN), INVALID);
            Due.is("8: kind " + far, x.tell(0, 0, 1, far), INVALID);
        }
        Due.is("8: errors change no clock", x.villagerOf(0, 1), 3);
    }

    private static void bury() {
        RumorTombs x = Villages.of(2);
        x.tick(3);
        x.tell(0, 2, 5, PLAIN);
        x.tick(4);
        Due.is("9: bury(0, 2)", x.bury(0, 2), 2);
        Due.is("9: a tomb", x.entryOf(0, 2, 0), 1);
        Due.is("9: version", x.entryOf(0, 2, 1), 2);
        Due.is("9: made at", x.entryOf(0, 2, 5), 7);
        Due.is("9: seen by", x.entryOf(0, 2, 6), 1);
        Due.is("9: a tomb is no rumor", x.bury(0, 2), IMPOSSIBLE);
        Due.is("9: no entry", x.bury(1, 2), IMPOSSIBLE);
        x.tell(0, 3, 5, PLAIN);
        x.meet(0, 1);
        Due.is("9: another's rumor", x.bury(1, 3), 4);
        Due.is("9: its author", x.entryOf(1, 3, 2), 1);
        Due.is("9: the other book stays", x.entryOf(0, 3, 0), 0);
        x.sleep(0);
        Due.is("9: asleep", x.bury(0, 3), IMPOSSIBLE);
        x.leave(0);
        Due.is("9: gone", x.bury(0, 3), IMPOSSIBLE);
        Due.is("9: topic 12", x.bury(1, 12), INVALID);
        Due.is("9: villager 2", x.bury(2, 3), INVALID);
        for (int far : FAR) {
            Due.is("9: villager " + far, x.bury(far, 3), INVALID);
            Due.is("9: topic " + far, x.bury(0, far), INVALID);
        }
    }

    private static void meetPassesTheNewer() {
        RumorTombs x = Villages.of(3);
        x.tell(0, 0, 10, PLAIN);
        x.tell(1, 0, 11, PLAIN);
        x.tell(0, 1, 20, PLAIN);
        x.tell(1, 2, 30, PLAIN);
        x.tell(1, 3, 40, PLAIN);
        Due.is("10: meet(0, 1)", x.meet(0, 1), 4);
        Due.is("10: the greater author", x.entryOf(0, 0, 3), 11);
        Due.is("10: to the other one", x.entryOf(1, 1, 3), 20);
        Due.is("10: to the one", x.entryOf(0, 3, 3), 40);
        Due.is("10: the giver keeps it", x.entryOf(1, 3, 3), 40);
        Due.is("10: version stays", x.entryOf(0, 3, 1), 3);
        Due.is("10: author stays", x.entryOf(0, 3, 2), 1);
        Due.is("10: clock of 0", x.villagerOf(0, 1), 3);
        Due.is("10: clock of 1", x.villagerOf(1, 1), 3);
        Due.is("10: again", x.meet(1, 0), 0);
        x.tell(0, 2, 31, PLAIN);
        Due.is("10: the greater version", x.meet(1, 0), 1);
        Due.is("10: it came", x.entryOf(1, 2, 3), 31);
        Due.is("10: its clock came", x.villagerOf(1, 1), 4);
        x.bury(1, 2);
        x.tell(0, 2, 32, PLAIN);
        Due.is("10: a tomb of the same version", x.meet(0, 1), 1);
        Due.is("10: the tomb's author is greater", x.entryOf(0, 2, 0), 1);
        Due.is("10: clocks without entries", x.meet(1, 2), 4);
        Due.is("10: clock of 2", x.villagerOf(2, 1), 5);
        Due.is("10: told behind it", x.tell(2, 9, 1, PLAIN), 6);
    }

    private static void meetKeepsWhispers() {
        RumorTombs x = Villages.of(4);
        x.tell(1, 0, 5, WHISPERED);
        x.tell(1, 1, 6, SECRET);
        Due.is("10: whispered to a lower one", x.meet(0, 1), 1);
        Due.is("10: not the secret one", x.entryOf(0, 1, 0), NONE);
        Due.is("10: both to a greater one", x.meet(2, 1), 2);
        Due.is("10: none by another", x.meet(2, 3), 0);
        Due.is("10: nor by the lower one", x.meet(0, 3), 0);
        Due.is("10: kind is passed", x.entryOf(2, 1, 4), SECRET);
        x.tell(3, 0, 9, PLAIN);
        Due.is("10: the newer one by its version", x.entryOf(3, 0, 1), 3);
        x.tell(2, 5, 1, PLAIN);
        x.tell(2, 0, 7, WHISPERED);
        x.meet(2, 1);
        Due.is("10: a newer whispered one in its place", x.entryOf(1, 0, 3), 7);
        Due.is("10: the newer one may not, the older one does not", x.meet(1, 3), 2);
        Due.is("10: the older one stays", x.entryOf(3, 0, 3), 9);
        Due.is("10: the newer one stays", x.entryOf(1, 0, 3), 7);
        Due.is("10: a plain one and the secret one came", x.villagerOf(3, 2), 1 | 1 << 5 | 1 << 1);
    }

    private static void meetSharesSight() {
        RumorTombs x = Villages.of(5);
        x.tell(0, 0, 5, PLAIN);
        x.bury(0, 0);
        Due.is("10: a tomb is passed", x.meet(0, 1), 1);
        Due.is("10: made is passed", x.entryOf(1, 0, 5), 0);
        Due.is("10: seen in 0", x.entryOf(0, 0, 6), 3);
        Due.is("10: seen in 1", x.entryOf(1, 0, 6), 3);
        x.meet(1, 2);
        Due.is("10: seen in 1 then", x.entryOf(1, 0, 6), 7);
        Due.is("10: a copy of its own", x.entryOf(0, 0, 6), 3);
        x.meet(0, 3);
        Due.is("10: seen in 3", x.entryOf(3, 0, 6), 11);
        Due.is("10: the same tomb is not passed", x.meet(3, 2), 0);
        Due.is("10: both told, in 3", x.entryOf(3, 0, 6), 15);
        Due.is("10: both told, in 2", x.entryOf(2, 0, 6), 15);
        x.tell(4, 8, 1, PLAIN);
        x.tell(4, 8, 1, PLAIN);
        x.tell(4, 0, 1, PLAIN);
        x.bury(4, 0);
        x.meet(4, 0);
        Due.is("10: another tomb has other seers", x.entryOf(0, 0, 6), 17);
        x.meet(0, 1);
        Due.is("10: an older tomb gives no seers", x.entryOf(1, 0, 6), 19);

        x = Villages.of(5);
        x.tell(0, 0, 5, PLAIN);
        x.tick(7);
        x.bury(0, 0);
        x.meet(1, 0);
        x.meet(2, 0);
        x.meet(3, 1);
        x.meet(4, 1);
        Due.is("10: the time when it was made is passed", x.entryOf(4, 0, 5), 7);
        Due.is("10: seen in 2", x.entryOf(2, 0, 6), 7);
        Due.is("10: seen in 4", x.entryOf(4, 0, 6), 27);
        Due.is("10: no passing", x.meet(2, 4), 0);
        Due.is("10: others of whom one told, in 2", x.entryOf(2, 0, 6), 31);
        Due.is("10: others of whom one told, in 4", x.entryOf(4, 0, 6), 31);
        Due.is("10: not in 3", x.entryOf(3, 0, 6), 11);

        x = Villages.of(3);
        x.tell(2, 0, 1, PLAIN);
        x.tell(2, 0, 1, PLAIN);
        x.tell(2, 0, 1, WHISPERED);
        x.meet(1, 2);
        x.tell(0, 0, 1, PLAIN);
        x.bury(0, 0);
        Due.is("10: a newer rumor that may not be passed", x.meet(0, 1), 0);
        Due.is("10: no tomb there, not seen", x.entryOf(0, 0, 6), 1);
        Due.is("10: the rumor is still there", x.entryOf(1, 0, 4), WHISPERED);
    }

    private static void meetErrors() {
        RumorTombs x = Villages.of(3);
        x.tell(0, 0, 1, PLAIN);
        x.sleep(1);
        Due.is("10: one asleep", x.meet(0, 1), IMPOSSIBLE);
        Due.is("10: one asleep, first", x.meet(1, 0), IMPOSSIBLE);
        Due.is("10: asleep, the same", x.meet(1, 1), INVALID);
        x.leave(2);
        Due.is("10: one gone", x.meet(0, 2), IMPOSSIBLE);
        Due.is("10: the same", x.meet(0, 0), INVALID);
        Due.is("10: no villager 3", x.meet(1, 3), INVALID);
        Due.is("10: no villager 3, first", x.meet(3, 1), INVALID);
        for (int far : FAR) {
            Due.is("10: one " + far, x.meet(far, 0), INVALID);
            Due.is("10: other " + far, x.meet(0, far), INVALID);
        }
        Due.is("10: nothing came", x.villagerOf(1, 1), 0);
        x.wake(1);
        Due.is("10: awake again", x.meet(1, 0), 1);
    }

    private static void entryOf() {
        RumorTombs x = Villages.of(2);
        x.tell(1, 11, 42, SECRET);
        x.tick(2);
        x.tell(1, 6, 7, PLAIN);
        x.bury(1, 6);
        int[] rumor = {0, 1, 1, 42, SECRET, NONE, NONE, 0};
        int[] tomb = {1, 3, 1, NONE, NONE, 2, 2, NONE};
        for (int what = 0; what <= 7; what++) {
            Due.is("11: rumor, " + what, x.entryOf(1, 11, what), rumor[what]);
            Due.is("11: tomb, " + what, x.entryOf(1, 6, what), tomb[what]);
            Due.is("11: no entry, " + what, x.entryOf(0, 6, what), NONE);
        }
        Due.is("11: what 8", x.entryOf(1, 11, 8), INVALID);
        Due.is("11: no entry, what 8", x.entryOf(0, 6, 8), INVALID);
        Due.is("11: topic 12", x.entryOf(1, 12, 0), INVALID);
        Due.is("11: villager 2", x.entryOf(2, 11, 0), INVALID);
        for (int far : FAR) {
            Due.is("11: villager " + far, x.entryOf(far, 11, 0), INVALID);
            Due.is("11: topic " + far, x.entryOf(1, far, 0), INVALID);
            Due.is("11: what " + far, x.entryOf(1, 11, far), INVALID);
        }
        x.meet(0, 1);
        x.tell(0, 11, 43, PLAIN);
        x.bury(0, 11);
        Due.is("11: dead", x.entryOf(1, 11, 7), 1);
    }

    private static void tickDropsSeenTombs() {
        RumorTombs x = Villages.of(3);
        x.tell(0, 0, 5, PLAIN);
        x.bury(0, 0);
        x.meet(0, 1);
        x.meet(1, 2);
        Due.is("12: all have seen two copies", x.tick(1), 2);
        Due.is("12: this copy does not tell it", x.entryOf(0, 0, 6), 3);
        Due.is("12: no entry then", x.entryOf(1, 0, 0), NONE);
        x.leave(2);
        Due.is("12: leaving drops nothing", x.count(6), 1);
        Due.is("12: those who are gone do not matter", x.tick(1), 1);

        x = Villages.of(2);
        x.tell(0, 0, 5, PLAIN);
        x.bury(0, 0);
        x.meet(0, 1);
        x.sleep(1);
        Due.is("12: one asleep drops, too", x.tick(1), 2);

        x = Villages.of(2);
        x.tell(0, 0, 5, PLAIN);
        x.bury(0, 0);
        x.sleep(1);
        Due.is("12: one asleep must see it", x.tick(1), 0);
        x.leave(1);
        x.villager();
        Due.is("12: a new one must see it", x.tick(1), 0);

        x = Villages.of(2);
        x.tell(1, 0, 5, PLAIN);
        x.bury(1, 0);
        Due.is("12: 0 must see it", x.tick(1), 0);
        x.leave(0);
        Due.is("12: but not if gone", x.tick(1), 1);
    }

    private static void tickDropsOldTombs() {
        RumorTombs x = Villages.of(2);
        x.tell(0, 0, 5, PLAIN);
        x.bury(0, 0);
        x.tick(3);
        x.tell(0, 1, 5, PLAIN);
        x.bury(0, 1);
        x.tell(0, 2, 5, PLAIN);
        x.sleep(0);
        Due.is("12: the watch is not over", x.tick(6), 0);
        Due.is("12: the watch is over", x.tick(1), 1);
        Due.is("12: of the older one", x.villagerOf(0, 3), 2);
        x.watch(7);
        Due.is("12: a watch alone drops nothing", x.count(6), 1);
        Due.is("12: a shorter watch", x.tick(1), 1);
        Due.is("12: rumors stay", x.villagerOf(0, 2), 4);
        x.wake(0);
        x.watch(60);
        x.bury(0, 2);
        Due.is("12: 59 ticks of 60", x.tick(59), 0);
        Due.is("12: more than the watch", x.tick(60), 1);
        Due.is("12: the time", x.count(3), 130);
    }

    private static void tickErrors() {
        RumorTombs x = new RumorTombs();
        Due.is("12: tick(0)", x.tick(0), INVALID);
        Due.is("12: tick(61)", x.tick(61), INVALID);
        for (int far : FAR) {
            Due.is("12: tick(" + far + ")", x.tick(far), INVALID);
        }
        Due.is("12: tick(60)", x.tick(60), 0);
        Due.is("12: tick(1)", x.tick(1), 0);
        Due.is("12: time", x.count(3), 61);
    }

    private static void newest() {
        RumorTombs x = Villages.of(3);
        x.tell(0, 4, 1, PLAIN);
        Due.is("13: one", x.newest(4), 1);
        x.tell(2, 4, 2, PLAIN);
        Due.is("13: the greater author", x.newest(4), 4);
        x.tell(1, 4, 2, PLAIN);
        Due.is("13: still", x.newest(4), 4);
        x.tell(1, 4, 2, PLAIN);
        Due.is("13: the greater version", x.newest(4), 2);
        x.meet(1, 0);
        Due.is("13: two", x.newest(4), 3);
        x.bury(0, 4);
        Due.is("13: a tomb", x.newest(4), 1);
        x.sleep(0);
        Due.is("13: asleep", x.newest(4), 1);
        x.leave(0);
        Due.is("13: gone", x.newest(4), 2);
        Due.is("13: none", x.newest(11), NONE);
        Due.is("13: topic 12", x.newest(12), INVALID);
        for (int far : FAR) {
            Due.is("13: topic " + far, x.newest(far), INVALID);
        }
    }

    private static void unlike() {
        RumorTombs x = Villages.of(3);
        x.tell(0, 0, 1, PLAIN);
        x.tell(1, 0, 1, PLAIN);
        x.tell(1, 11, 1, PLAIN);
        Due.is("14: unlike(0, 1)", x.unlike(0, 1), 1 | 1 << 11);
        Due.is("14: unlike(1, 0)", x.unlike(1, 0), 1 | 1 << 11);
        Due.is("14: the same", x.unlike(1, 1), 0);
        Due.is("14: none at all", x.unlike(2, 0), 1);
        x.meet(0, 1);
        Due.is("14: behind a meeting", x.unlike(0, 1), 0);
        x.bury(0, 0);
        Due.is("14: a tomb", x.unlike(0, 1), 1);
        x.meet(0, 1);
        x.meet(1, 2);
        Due.is("14: copies that tell of others", x.unlike(0, 1), 0);
        x.leave(0);
        Due.is("14: with one gone", x.unlike(0, 1), 1 | 1 << 11);
        Due.is("14: no villager 3", x.unlike(3, 0), INVALID);
        Due.is("14: no villager 3, other", x.unlike(0, 3), INVALID);
        for (int far : FAR) {
            Due.is("14: one " + far, x.unlike(far, 0), INVALID);
            Due.is("14: other " + far, x.unlike(0, far), INVALID);
        }
    }

    private static void dead() {
        RumorTombs x = Villages.of(3);
        x.tell(0, 0, 1, PLAIN);
        x.tell(0, 7, 1, PLAIN);
        x.meet(0, 1);
        x.meet(0, 2);
        Due.is("15: none", x.dead(0), 0);
        x.bury(1, 7);
        Due.is("15: of 0", x.dead(0), 1 << 7);
        Due.is("15: of 1, a tomb is no rumor", x.dead(1), 0);
        x.tick(10);
        Due.is("15: the tomb was made, if dropped", x.dead(0), 1 << 7);
        x.tell(2, 7, 2, PLAIN);
        Due.is("15: the same version, the greater author", x.dead(2), 0);
        x.tell(0, 7, 3, PLAIN);
        Due.is("15: the same version, the lower author", x.dead(0), 1 << 7);
        x.tell(0, 7, 3, PLAIN);
        Due.is("15: a newer rumor", x.dead(0), 0);
        x.leave(1);
        Due.is("15: its author is gone", x.dead(1), 0);
        Due.is("15: no villager 3", x.dead(3), INVALID);
        for (int far : FAR) {
            Due.is("15: dead(" + far + ")", x.dead(far), INVALID);
        }

        x = Villages.of(2);
        x.tell(1, 0, 1, PLAIN);
        x.tell(1, 0, 1, PLAIN);
        x.tell(1, 0, 1, PLAIN);
        x.tell(0, 0, 1, PLAIN);
        x.bury(0, 0);
        Due.is("15: an older tomb", x.dead(1), 0);
        x.bury(1, 0);
        x.tell(0, 0, 1, PLAIN);
        Due.is("15: the newest tomb of all", x.dead(0), 1);
    }

    /** Villager 1 has a rumor of topic 0 that 0 has buried; 0 has dropped the tomb. */
    private static RumorTombs haunted() {
        RumorTombs x = Villages.of(3);
        x.tell(1, 0, 66, PLAIN);
        x.meet(1, 0);
        x.bury(0, 0);
        x.tick(10);
        return x;
    }

    private static void ghostsThatWalk() {
        RumorTombs x = haunted();
        Due.is("16: in danger", x.ghosts(0, 1, 0), 1);
        Due.is("16: in danger, the other way", x.ghosts(1, 0, 0), 1);
        Due.is("10: it is passed", x.meet(1, 0), 1);
        Due.is("7: ghosts of 0", x.villagerOf(0, 4), 1);
        Due.is("7: ghosts of 1", x.villagerOf(1, 4), 0);
        Due.is("19: ghosts", x.count(8), 1);
        Due.is("10: once only", x.meet(1, 0), 0);
        Due.is("19: ghosts still", x.count(8), 1);
        x.bury(0, 0);
        x.tick(10);
        x.meet(1, 0);
        Due.is("7: a second one", x.villagerOf(0, 4), 2);
        x.leave(0);
        Due.is("7: of one gone", x.villagerOf(0, 4), 2);
        Due.is("19: of one gone, too", x.count(8), 2);
    }

    private static void ghostsThatDoNot() {
        RumorTombs x = haunted();
        x.meet(1, 2);
        Due.is("16: who never had the tomb", x.villagerOf(2, 4), 0);
        x.tell(1, 0, 67, PLAIN);
        x.tell(1, 0, 68, PLAIN);
        Due.is("16: a rumor that is not dead", x.ghosts(0, 1, 0), 0);
        x.meet(1, 2);
        x.bury(2, 0);
        Due.is("15: it is dead then", x.dead(1), 1);
        Due.is("16: dead, but newer than the dropped tomb", x.ghosts(0, 1, 0), 0);
        x.meet(0, 1);
        Due.is("19: no ghost", x.count(8), 0);

        x = Villages.of(3);
        x.tell(1, 0, 1, PLAIN);
        x.meet(1, 0);
        x.bury(0, 0);
        x.tell(0, 0, 2, PLAIN);
        x.tick(10);
        x.leave(2);
        Due.is("16: another entry came in its place", x.ghosts(0, 1, 0), 0);

        x = haunted();
        x.tell(1, 5, 1, PLAIN);
        x.bury(1, 5);
        x.tell(2, 6, 1, PLAIN);
        Due.is("16: a tomb is no ghost, nor another topic", x.ghosts(0, 2, 0), 0);
    }

    private static void ghostsThatWould() {
        RumorTombs x = Villages.of(3);
        x.tell(1, 0, 66, PLAIN);
        x.tell(1, 1, 67, PLAIN);
        x.tell(1, 2, 68, SECRET);
        x.meet(1, 0);
        x.meet(1, 2);
        x.bury(0, 0);
        x.tick(2);
        x.bury(0, 1);
        Due.is("16: behind 7", x.ghosts(0, 1, 7), 0);
        Due.is("16: behind 8", x.ghosts(0, 1, 8), 1);
        Due.is("16: behind 9", x.ghosts(1, 0, 9), 1);
        Due.is("16: behind 10", x.ghosts(0, 1, 10), 2);
        Due.is("16: behind 60", x.ghosts(0, 1, 60), 2);
        Due.is("16: nothing changes", x.count(3), 2);
        Due.is("16: no ghost walked", x.count(8), 0);
        Due.is("16: no state", x.count(10), 4);
        x.sleep(1);
        Due.is("16: as if awake", x.ghosts(0, 1, 10), 2);
        Due.is("16: the same", x.ghosts(0, 0, 10), INVALID);
        Due.is("16: ticks 61", x.ghosts(0, 1, 61), INVALID);
        Due.is("16: villager 3", x.ghosts(0, 3, 0), INVALID);
        Due.is("16: villager 3, first", x.ghosts(3, 0, 0), INVALID);
        for (int far : FAR) {
            Due.is("16: one " + far, x.ghosts(far, 0, 0), INVALID);
            Due.is("16: other " + far, x.ghosts(0, far, 0), INVALID);
            Due.is("16: ticks " + far, x.ghosts(0, 1, far), INVALID);
        }
        x.leave(2);
        Due.is("16: gone", x.ghosts(0, 2, 0), IMPOSSIBLE);
        Due.is("16: gone, first", x.ghosts(2, 0, 0), IMPOSSIBLE);
        Due.is("16: gone and ticks 61", x.ghosts(2, 0, 61), INVALID);

        x = Villages.of(2);
        x.tell(0, 0, 1, PLAIN);
        x.meet(0, 1);
        x.bury(0, 0);
        Due.is("16: 0 ticks drop nothing", x.ghosts(0, 1, 0), 0);
        x.villager();
        x.meet(0, 2);
        x.sleep(1);
        x.leave(2);
        Due.is("16: not all have seen it", x.ghosts(0, 1, 1), 0);
        Due.is("16: an awaited sleeper", x.ghosts(0, 1, 10), 1);
        x.watch(1);
        x.wake(1);
        x.tick(1);
        x.meet(0, 1);
        Due.is("16: one has walked", x.count(8), 1);
        x.bury(0, 0);
        Due.is("16: those so far do not count", x.ghosts(0, 1, 0), 0);
        x.villager();
        Due.is("16: one more", x.ghosts(0, 1, 1), 1);
        x.watch(60);
        x.tick(3);
        x.watch(3);
        Due.is("16: over, but not dropped yet", x.ghosts(0, 1, 0), 0);
        Due.is("16: dropped behind a tick", x.ghosts(0, 1, 1), 1);
    }

    private static void bestMeeting() {
        RumorTombs x = Villages.of(4);
        Due.is("17: no entries, pair", x.bestMeeting(0), 1);
        Due.is("17: no entries, passed", x.bestMeeting(1), 0);
        x.tell(3, 0, 1, PLAIN);
        Due.is("17: the lowest one", x.bestMeeting(0), 3);
        x.tell(2, 1, 1, PLAIN);
        Due.is("17: most", x.bestMeeting(0), 23);
        Due.is("17: how many", x.bestMeeting(1), 2);
        x.tell(2, 2, 1, SECRET);
        x.tell(1, 3, 1, WHISPERED);
        Due.is("17: the lowest other one", x.bestMeeting(0), 23);
        Due.is("17: with the secret one", x.bestMeeting(1), 3);
        x.sleep(3);
        Due.is("17: those who are awake", x.bestMeeting(0), 12);
        Due.is("17: the secret one does not count", x.bestMeeting(1), 2);
        Due.is("17: nothing changes", x.villagerOf(1, 2), 1 << 3);
        x.leave(2);
        Due.is("17: not those who are gone", x.bestMeeting(0), 1);
        x.sleep(0);
        Due.is("17: one is awake", x.bestMeeting(0), NONE);
        Due.is("17: one is awake, how many", x.bestMeeting(1), NONE);
        Due.is("17: what 2", x.bestMeeting(2), INVALID);
        for (int far : FAR) {
            Due.is("17: what " + far, x.bestMeeting(far), INVALID);
        }
    }

    private static void rounds() {
        RumorTombs x = Villages.of(7);
        Due.is("18: alike at once", x.rounds(), 0);
        x.tell(0, 0, 1, PLAIN);
        Due.is("18: along the round", x.rounds(), 1);
        x.tell(3, 1, 1, PLAIN);
        Due.is("18: two rounds", x.rounds(), 2);
        Due.is("18: nothing changes", x.villagerOf(1, 2), 0);
        Due.is("18: no state", x.count(10), 4);
        x.tell(3, 2, 1, WHISPERED);
        Due.is("18: it does not come", x.rounds(), NONE);
        for (int v = 0; v < 7; v++) {
            if (v != 3 && v != 4) {
                x.sleep(v);
            }
        }
        Due.is("18: two are awake", x.rounds(), 1);
        x.sleep(4);
        Due.is("18: one is awake", x.rounds(), 0);
        x.leave(3);
        Due.is("18: nobody is awake", x.rounds(), 0);

        x = Villages.of(3);
        x.tell(1, 0, 1, SECRET);
        Due.is("18: a secret one never comes to 0", x.rounds(), NONE);
        x.sleep(0);
        Due.is("18: but to 2", x.rounds(), 1);

        x = Villages.of(3);
        x.tell(1, 0, 1, WHISPERED);
        Due.is("18: whispered among three", x.rounds(), 1);
        x.tell(2, 1, 1, WHISPERED);
        Due.is("18: the last one meets the first one", x.rounds(), 1);
        x.tell(2, 2, 1, PLAIN);
        x.bury(2, 2);
        x.meet(2, 1);
        x.meet(2, 0);
        Due.is("18: a tomb's seers do not matter", x.rounds(), 1);

        x = Villages.of(7);
        x.tell(6, 0, 1, PLAIN);
        Due.is("18: against the round, the last one to the first one", x.rounds(), 2);
    }

    private static void count() {
        RumorTombs x = Villages.of(4);
        x.tell(0, 0, 1, PLAIN);
        x.tell(0, 1, 1, PLAIN);
        x.meet(0, 1);
        x.bury(1, 1);
        x.meet(1, 2);
        x.tick(3);
        x.sleep(2);
        x.leave(3);
        x.watch(33);
        Villages.write(x, "abc");
        int[] due = {4, 2, 1, 3, 33, 4, 2, 1, 0, 1, 4, 3};
        for (int what = 0; what <= 11; what++) {
            Due.is("19: count(" + what + ")", x.count(what), due[what]);
        }
        x.tick(60);
        Due.is("19: tombs that were dropped were made", x.count(9), 1);
        Due.is("19: no copies", x.count(6), 0);
        x.meet(0, 1);
        Due.is("19: a ghost", x.count(8), 1);
        Due.is("19: dead ones", x.count(7), 2);
        Due.is("19: what 12", x.count(12), INVALID);
        for (int far : FAR) {
            Due.is("19: what " + far, x.count(far), INVALID);
        }
    }

    private static void undo() {
        RumorTombs x = new RumorTombs();
        Due.is("20: no state", x.undo(), IMPOSSIBLE);
        for (int i = 0; i < 6; i++) {
            x.villager();
            Due.is("20: states", x.count(10), Math.min(i + 1, 4));
        }
        x.type('n');
        Due.is("20: 3 left", x.undo(), 3);
        Due.is("20: 5 villagers", x.count(0), 5);
        Due.is("20: the text stays", x.count(11), 1);
        Due.is("20: 2 left", x.undo(), 2);
        Due.is("20: a change behind it", x.villager(), 4);
        Due.is("20: 2 left again", x.undo(), 2);
        Due.is("20: 1 left", x.undo(), 1);
        Due.is("20: 0 left", x.undo(), 0);
        Due.is("20: 2 villagers", x.count(0), 2);
        Due.is("20: the oldest ones are dropped", x.undo(), IMPOSSIBLE);
        Due.is("20: errors record nothing", x.sleep(2), INVALID);
        Due.is("20: nor does this one", x.wake(0), IMPOSSIBLE);
        Due.is("20: none", x.count(10), 0);
    }

    private static void undoRestoresEverything() {
        RumorTombs x = haunted();
        x.meet(0, 1);
        x.undo();
        Due.is("20: the ghost", x.count(8), 0);
        Due.is("20: the tomb was dropped", x.ghosts(0, 1, 0), 1);
        x.undo();
        Due.is("20: the time", x.count(3), 0);
        Due.is("20: the tomb is back", x.entryOf(0, 0, 0), 1);
        Due.is("20: it was not dropped", x.ghosts(0, 1, 0), 0);
        x.undo();
        Due.is("20: the tomb was never made", x.dead(1), 0);
        Due.is("20: nor counted", x.count(9), 0);
        Due.is("20: the rumor is back", x.entryOf(0, 0, 3), 66);
        Due.is("20: its clock", x.villagerOf(0, 1), 1);
        x.watch(5);
        x.sleep(1);
        x.tick(1);
        x.wake(1);
        x.undo();
        Due.is("20: the sleep", x.villagerOf(1, 5), 1);
        x.undo();
        x.undo();
        Due.is("20: awake", x.villagerOf(1, 0), 0);
        x.undo();
        Due.is("20: the watch", x.count(4), 10);
        x.leave(1);
        x.undo();
        Due.is("20: the book of one gone", x.entryOf(1, 0, 3), 66);
        x.tell(1, 0, 5, SECRET);
        x.undo();
        Due.is("20: the value", x.entryOf(1, 0, 3), 66);
        Due.is("20: the kind", x.entryOf(1, 0, 4), PLAIN);
        x.bury(0, 0);
        x.meet(0, 2);
        x.meet(2, 1);
        x.undo();
        Due.is("20: seen", x.entryOf(2, 0, 6), 5);

        x = Villages.of(1);
        x.sleep(0);
        x.tick(5);
        x.wake(0);
        x.sleep(0);
        x.undo();
        x.undo();
        Due.is("20: since when", x.villagerOf(0, 5), 5);
    }

    private static void sevenVillagers() {
        RumorTombs x = Villages.of(7);
        for (int v = 0; v < 7; v++) {
            for (int topic = 0; topic < 12; topic++) {
                x.tell(v, topic, topic, PLAIN);
            }
        }
        Due.is("19: rumors", x.count(5), 84);
        Due.is("18: rounds", x.rounds(), 2);
        for (int v = 0; v < 7; v++) {
            for (int topic = 0; topic < 12; topic++) {
                x.bury(v, topic);
            }
        }
        Due.is("19: tombs", x.count(6), 84);
        Due.is("19: made", x.count(9), 84);
        Due.is("13: newest", x.newest(11), 64);
        Due.is("10: twelve", x.meet(5, 6), 12);
        Due.is("17: twelve", x.bestMeeting(1), 12);
        Due.is("19: awake", x.count(1), 7);
        Due.is("12: none", x.tick(9), 0);
        Due.is("12: all", x.tick(1), 84);
        Due.is("7: none is left", x.villagerOf(6, 3), 0);
        Due.is("19: asleep", x.count(2), 0);
        Due.is("19: dead", x.count(7), 0);
        Due.is("19: ghosts", x.count(8), 0);
    }

    private static void type() {
        RumorTombs x = new RumorTombs();
        Due.is("21: 31", x.type(31), INVALID);
        Due.is("21: 127", x.type(127), INVALID);
        for (int far : FAR) {
            Due.is("21: " + far, x.type(far), INVALID);
        }
        Due.is("21: 65536 + 110", x.type(65536 + 'n'), INVALID);
        Due.is("21: 32", x.type(32), 1);
        for (int i = 2; i <= 60; i++) {
            Due.is("21: 126", x.type(126), i);
        }
        Due.is("21: the 61st", x.type(126), LIMIT);
        Due.is("21: the 61st, out of range", x.type(127), INVALID);
        Due.is("21: length", x.count(11), 60);
        Due.is("21: no change", x.count(10), 0);
    }

    private static void clearText() {
        RumorTombs x = new RumorTombs();
        Due.is("22: empty", x.clearText(), 0);
        Villages.write(x, "n60;n");
        Due.is("22: five", x.clearText(), 5);
        Due.is("22: empty then", x.clearText(), 0);
        Due.is("22: from the start again", x.type('n'), 1);
        Due.is("22: no change", x.count(10), 0);
    }

    /** Three villagers, of whom 0 has a rumor of topic 0. */
    private static RumorTombs three() {
        RumorTombs x = Villages.of(3);
        x.tell(0, 0, 5, PLAIN);
        return x;
    }

    private static void faultForm() {
        String[] bad = {";", "t", "t0", "t0,0,5", "t0,0;", "t0;", "t;", "t0,0,5,5;", "t0,0,500;", "t,0,5;", "t0,,5;",
            "t0,0,;", "T0,0,5;", " t0,0,5;", "t 0,0,5;", "t0,0,5 ;", "t0 ,0,5;", "tt0,0,5;", "t-1,0,5;", "t0.0.5;",
            "b0;", "b0,0", "b0,0,0;", "b000,0;", "b0,000;", "m0;", "m0,1,2;", "m,1;", "m0,;", "s;", "s0", "s0,1;",
            "s000;", "w;", "w0,0;", "w;0", "n;", "n1,1;", "n100;", "n001;", "nn1;", "n1,;", "x0;", "0;", "n/;", "n:;",
            "n", "~", " ", ",", "n1:"};
        for (String order : bad) {
            faultIs(three(), order, 0, 1);
            faultIs(three(), "n1;n2;" + order, 6, 1);
        }
        RumorTombs x = three();
        faultIs(x, "n1;;n1;", 3, 1);
        faultIs(x, "n1; n1;", 3, 1);
        faultIs(x, "n1;n1", 3, 1);
        faultIs(x, "n1; ", 3, 1);
        Due.is("23: no state", x.count(10), 4);
        Due.is("23: no time", x.count(3), 0);
    }

    private static void faultNames() {
        String[] bad = {"t3,0,5;", "t0,12,5;", "t99,99,99;", "t3,12,5;", "b3,0;", "b0,12;", "b99,99;", "m0,3;", "m3,0;",
            "m3,3;", "m99,99;", "s3;", "s99;", "w3;", "w07;"};
        for (String order : bad) {
            faultIs(three(), order, 0, 2);
            faultIs(three(), "t0,0,1;m0,1;" + order, 12, 2);
        }
        RumorTombs x = three();
        x.sleep(1);
        faultIs(x, "m1,3;", 0, 2);
        faultIs(x, "s1;s3;", 0, 3);
        faultIs(x, "n1;t0,99,1;n", 3, 2);
        Due.is("23: what 2", x.fault(2), INVALID);
        for (int far : FAR) {
            Due.is("23: what " + far, x.fault(far), INVALID);
        }
        x.clearText();
        Due.is("23: what 2, empty", x.fault(2), INVALID);
        Due.is("23: empty", x.fault(0), NONE);
        Due.is("23: empty, reason", x.fault(1), NONE);
    }

    private static void faultOtherwise() {
        String[] bad = {"b1,0;", "b0,1;", "m0,0;", "m2,02;", "w0;", "n0;", "n00;", "n61;", "n99;"};
        for (String order : bad) {
            faultIs(three(), order, 0, 3);
            faultIs(three(), "n1;" + order, 3, 3);
        }
        RumorTombs x = three();
        noFault(x, "n60;n1;n01;n07;");
        noFault(x, "t00,00,00;t2,11,99;t1,01,1;");
        noFault(x, "b0,0;");
        faultIs(x, "b0,0;b0,0;", 5, 3);
        noFault(x, "b0,0;t0,0,1;b0,0;");
        noFault(x, "m0,1;b1,0;");
        faultIs(x, "b0,0;n10;b0,0;", 9, 3);
        noFault(x, "s0;w0;s0;");
        faultIs(x, "s0;s0;", 3, 3);
        faultIs(x, "s0;t0,1,1;", 3, 3);
        faultIs(x, "s0;m1,0;", 3, 3);
        faultIs(x, "s0;b0,0;", 3, 3);
        faultIs(x, "s0;n60;w0;w0;", 10, 3);
        x.leave(2);
        faultIs(x, "s2;", 0, 3);
        faultIs(x, "w2;", 0, 3);
        faultIs(x, "m0,2;", 0, 3);
        faultIs(x, "t2,0,0;", 0, 3);
        faultIs(x, "b2,0;", 0, 3);
        Due.is("23: nothing changes", x.villagerOf(0, 3), 0);
    }

    private static void play() {
        RumorTombs x = Villages.of(3);
        Due.is("24: no orders", x.play(), 0);
        Due.is("24: one change all the same", x.count(10), 4);
        Due.is("24: undone", x.undo(), 3);
        Due.is("24: three villagers still", x.count(0), 3);
        Villages.write(x, "t0,11,99;m0,2;b2,11;s1;n60;w1;t1,3,07;");
        Due.is("24: seven", x.play(), 7);
        Due.is("24: the text stays", x.count(11), 38);
        Due.is("24: plain", x.entryOf(0, 11, 4), PLAIN);
        Due.is("24: value", x.entryOf(0, 11, 3), 99);
        Due.is("24: dead", x.dead(0), 1 << 11);
        Due.is("24: dropped", x.entryOf(2, 11, 0), NONE);
        Due.is("24: made", x.count(9), 1);
        Due.is("24: awake", x.villagerOf(1, 0), 0);
        Due.is("24: 07", x.entryOf(1, 3, 3), 7);
        Due.is("24: time", x.count(3), 60);
        Due.is("24: states", x.count(10), 4);
        Due.is("24: undo", x.undo(), 3);
        Due.is("24: one change", x.villagerOf(0, 2), 0);
        Due.is("24: its time", x.count(3), 0);
        Due.is("24: again", x.play(), 7);
        Due.is("24: and again, a ghost", x.play(), 7);
        Villages.write(x, "m0,2;n1;w0;");
        Due.is("24: a fault", x.play(), IMPOSSIBLE);
        Due.is("24: nothing was done", x.count(3), 120);
        Villages.write(x, "s0;s1;s2;w0;w1;w2;s0;s1;s2;w0;w1;w2;s0;s1;s2;w0;w1;w2;s0;s1;");
        Due.is("24: twenty", x.play(), 20);
        Due.is("24: who sleeps", x.count(2), 2);
    }

    private static void timeLimit() {
        RumorTombs x = Villages.of(2);
        Villages.write(x, "n60;n60;n60;n60;n60;n60;n60;n60;n60;n60;n60;n60;n60;n60;n60;");
        for (int i = 0; i < 111; i++) {
            Due.is("12: 900 ticks", x.play(), 15);
        }
        Due.is("23: position at the limit", x.fault(0), 4);
        Due.is("23: reason at the limit", x.fault(1), 3);
        x.tell(0, 0, 1, PLAIN);
        x.meet(0, 1);
        x.tick(60);
        x.bury(0, 0);
        Due.is("12: tick(41) at 99960", x.tick(41), LIMIT);
        Due.is("12: tick(61) at 99960", x.tick(61), INVALID);
        Due.is("16: ghosts beyond the limit", x.ghosts(0, 1, 60), 1);
        Due.is("12: tick(39)", x.tick(39), 1);
        Due.is("12: tick(1)", x.tick(1), 0);
        Due.is("12: at 100000", x.tick(1), LIMIT);
        Due.is("12: time", x.count(3), 100000);
    }
}
