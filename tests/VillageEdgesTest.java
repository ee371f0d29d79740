/** The sentences about villagers, settings and numbers that name an edge: promises 1 to 7 and 19. */
public final class VillageEdgesTest {
    public static void main(String[] args) {
        calls();
        newObject();
        theEighthVillager();
        aNewVillagersBook();
        numberAgainBehindUndo();
        howManyAreAwake();
        sleepOfOneNotAwake();
        ticksSlept();
        wakeOfOneNotAsleep();
        howManyAreNotGone();
        theBookOfOneGone();
        leaveOfOneGone();
        theWatch();
        setsOfTopics();
        ghostsOfAVillager();
        notAsleep();
        countsOfVillagers();
        countsOfEntries();
        Due.end();
    }

    private static void calls() {
        Due.sentence("An object is used for at most 512 calls after it has been made");
        RumorTombs x = Villages.of(1);
        for (int version = 1; version <= 510; version++) {
            Due.is("tell", x.tell(0, version % 12, version % 100, version % 3), version);
        }
        Due.is("the 512th call", x.entryOf(0, 510 % 12, 1), 510);

        x = Villages.of(2);
        Villages.write(x, "t0,0,1;b0,0;t0,0,1;b0,0;t0,0,1;b0,0;t0,0,1;b0,0;t0,0,1;b0,0;");
        for (int i = 0; i < 448; i++) {
            Due.is("play", x.play(), 10);
        }
        Due.is("the 512th call", x.count(9), 5 * 448);
    }

    private static void newObject() {
        Due.sentence("Creates a village without villagers, at the time 0");
        Due.is("villagers", new RumorTombs().count(0), 0);
        Due.is("the time", new RumorTombs().count(3), 0);
        Due.is("villagerOf(0, 0)", new RumorTombs().villagerOf(0, 0), Villages.INVALID);
        for (int what = 0; what <= 11; what++) {
            Due.is("count(" + what + ")", new RumorTombs().count(what), what == 4 ? 10 : 0);
        }
        RumorTombs used = Villages.of(7);
        used.tell(0, 0, 0, Villages.PLAIN);
        Due.is("another object has its own villagers", new RumorTombs().villager(), 0);
    }

    private static void theEighthVillager() {
        Due.sentence("Returns the number of the villager; LIMIT_REACHED if there are 7 (those who are gone, too)");
        for (int gone = 0; gone <= 7; gone++) {
            RumorTombs x = new RumorTombs();
            for (int v = 0; v < 7; v++) {
                Due.is("villager", x.villager(), v);
                if (v < gone) {
                    x.leave(v);
                }
            }
            Due.is("the eighth where " + gone + " are gone", x.villager(), Villages.LIMIT);
            Due.is("and again", x.villager(), Villages.LIMIT);
            Due.is("villagers", x.count(0), 7);
            Due.is("there is no such one", x.villagerOf(7, 0), Villages.INVALID);
        }
        RumorTombs x = Villages.of(7);
        for (int v = 0; v < 7; v++) {
            x.sleep(v);
        }
        Due.is("the eighth where all are asleep", x.villager(), Villages.LIMIT);
    }

    private static void aNewVillagersBook() {
        Due.sentence("Adds a villager, who is awake, with an empty book");
        RumorTombs x = Villages.of(1);
        Villages.tellAll(x, 0);
        x.bury(0, 0);
        x.tick(60);
        x.tell(0, 0, 1, Villages.PLAIN);
        x.bury(0, 0);
        x.sleep(0);
        int v = x.villager();
        Due.is("state", x.villagerOf(v, 0), 0);
        Due.is("clock", x.villagerOf(v, 1), 0);
        Due.is("rumors", x.villagerOf(v, 2), 0);
        Due.is("tombs", x.villagerOf(v, 3), 0);
        Due.is("ghosts", x.villagerOf(v, 4), 0);
        Due.is("slept", x.villagerOf(v, 5), Villages.NONE);
        for (int topic = 0; topic < 12; topic++) {
            Due.is("entry of " + topic, x.entryOf(v, topic, 0), Villages.NONE);
        }
    }

    private static void numberAgainBehindUndo() {
        Due.sentence("Adds a villager, who is awake, with an empty book");
        RumorTombs x = Villages.of(1);
        x.villager();
        x.tell(1, 11, 1, Villages.PLAIN);
        x.sleep(1);
        for (int i = 0; i < 3; i++) {
            x.undo();
        }
        Due.is("the number again", x.villager(), 1);
        Due.is("state", x.villagerOf(1, 0), 0);
        Due.is("clock", x.villagerOf(1, 1), 0);
        Due.is("rumors", x.villagerOf(1, 2), 0);
    }

    private static void howManyAreAwake() {
        Due.sentence("Returns how many are awake then");
        RumorTombs x = Villages.of(7);
        for (int v = 0; v < 7; v++) {
            Due.is("sleep(" + v + ")", x.sleep(v), 6 - v);
            Due.is("count(1)", x.count(1), 6 - v);
            Due.is("count(2)", x.count(2), v + 1);
        }
        x = Villages.of(7);
        x.leave(0);
        x.leave(6);
        Due.is("those who are gone are not awake", x.sleep(3), 4);
        Due.is("the only one", Villages.of(1).sleep(0), 0);
    }

    private static void sleepOfOneNotAwake() {
        Due.sentence("NOT_POSSIBLE if the villager is not awake");
        RumorTombs x = Villages.of(2);
        x.sleep(0);
        Due.is("asleep", x.sleep(0), Villages.IMPOSSIBLE);
        x.leave(0);
        Due.is("gone in sleep", x.sleep(0), Villages.IMPOSSIBLE);
        x.leave(1);
        Due.is("gone", x.sleep(1), Villages.IMPOSSIBLE);
    }

    private static void ticksSlept() {
        Due.sentence("Returns how many ticks the villager has slept");
        for (int ticks : new int[] {0, 1, 59, 60}) {
            RumorTombs x = Villages.of(1);
            x.tick(7);
            x.sleep(0);
            if (ticks > 0) {
                x.tick(ticks);
            }
            Due.is("villagerOf(0, 5)", x.villagerOf(0, 5), ticks);
            Due.is("wake", x.wake(0), ticks);
            x.tick(3);
            x.sleep(0);
            Due.is("asleep anew", x.villagerOf(0, 5), 0);
            x.tick(1);
            Due.is("wake anew", x.wake(0), 1);
        }
        RumorTombs x = Villages.of(1);
        x.sleep(0);
        Villages.passMostTime(x);
        x.tick(60);
        x.tick(40);
        Due.is("all the time", x.villagerOf(0, 5), 100000);
        Due.is("wake behind all the time", x.wake(0), 100000);
    }

    private static void wakeOfOneNotAsleep() {
        Due.sentence("NOT_POSSIBLE if the villager is not asleep");
        RumorTombs x = Villages.of(2);
        Due.is("never asleep", x.wake(0), Villages.IMPOSSIBLE);
        x.sleep(0);
        x.wake(0);
        Due.is("awake again", x.wake(0), Villages.IMPOSSIBLE);
        x.sleep(0);
        x.leave(0);
        Due.is("gone in sleep", x.wake(0), Villages.IMPOSSIBLE);
    }

    private static void howManyAreNotGone() {
        Due.sentence("Returns how many are not gone then");
        RumorTombs x = Villages.of(7);
        x.sleep(1);
        x.sleep(6);
        for (int v = 0; v < 7; v++) {
            Due.is("leave(" + v + ")", x.leave(v), 6 - v);
        }
        Due.is("villagers", x.count(0), 7);
        Due.is("awake", x.count(1), 0);
        Due.is("asleep", x.count(2), 0);
        Due.is("the only one", Villages.of(1).leave(0), 0);
    }

    private static void theBookOfOneGone() {
        Due.sentence("Lets a villager go for good, whose book is empty then");
        for (int v = 0; v < 7; v += 6) {
            RumorTombs x = Villages.of(7);
            Villages.tellAll(x, v);
            x.bury(v, 0);
            x.bury(v, 11);
            x.leave(v);
            Due.is("rumors", x.villagerOf(v, 2), 0);
            Due.is("tombs", x.villagerOf(v, 3), 0);
            Due.is("all rumors", x.count(5), 0);
            Due.is("all tombs", x.count(6), 0);
            for (int topic = 0; topic < 12; topic++) {
                Due.is("entry of " + topic, x.entryOf(v, topic, 0), Villages.NONE);
                Due.is("newest of " + topic, x.newest(topic), Villages.NONE);
            }
            Due.is("nothing is left to be dropped", x.tick(60), 0);
        }
        RumorTombs x = Villages.of(2);
        x.tell(0, 3, 1, Villages.PLAIN);
        x.meet(0, 1);
        x.leave(0);
        Due.is("the other book stays", x.entryOf(1, 3, 2), 0);
    }

    private static void leaveOfOneGone() {
        Due.sentence("NOT_POSSIBLE if the villager is gone");
        RumorTombs x = Villages.of(1);
        x.sleep(0);
        Due.is("asleep", x.leave(0), 0);
        Due.is("again", x.leave(0), Villages.IMPOSSIBLE);
        Due.is("for good", x.wake(0), Villages.IMPOSSIBLE);
        Due.is("state", x.villagerOf(0, 0), 2);
    }

    private static void theWatch() {
        Due.sentence("The watch is 1 to 60 ticks, at first 10");
        RumorTombs x = new RumorTombs();
        Due.is("at first", x.count(4), 10);
        Due.is("61", x.watch(61), Villages.INVALID);
        Due.is("0", x.watch(0), Villages.INVALID);
        Due.is("still", x.count(4), 10);
        Due.sentence("Returns the watch before");
        int before = 10;
        for (int ticks = 1; ticks <= 60; ticks++) {
            Due.is("watch(" + ticks + ")", x.watch(ticks), before);
            Due.is("count(4)", x.count(4), ticks);
            before = ticks;
        }
        Due.is("the same", x.watch(60), 60);
        Due.is("the least behind the greatest", x.watch(1), 60);
        Due.is("and back", x.watch(60), 1);
    }

    private static void setsOfTopics() {
        Due.sentence("Sets are told as bits: bit k is for number k");
        RumorTombs x = Villages.of(7);
        for (int v = 0; v < 7; v += 6) {
            Due.is("no rumors", x.villagerOf(v, 2), 0);
            Due.is("no tombs", x.villagerOf(v, 3), 0);
            int set = 0;
            for (int topic = 0; topic < 12; topic++) {
                x.tell(v, topic, 1, topic % 3);
                set |= 1 << topic;
                Due.is("rumors", x.villagerOf(v, 2), set);
            }
            Due.is("all rumors", x.villagerOf(v, 2), 4095);
            for (int topic = 0; topic < 12; topic++) {
                x.bury(v, topic);
                set &= ~(1 << topic);
                Due.is("rumors that are left", x.villagerOf(v, 2), set);
                Due.is("tombs", x.villagerOf(v, 3), 4095 & ~set);
            }
        }
        Due.is("of another villager", x.villagerOf(3, 2) + x.villagerOf(3, 3), 0);
    }

    private static void ghostsOfAVillager() {
        Due.sentence("how many ghosts walked to the villager so far");
        RumorTombs x = Villages.of(7);
        Villages.tellAll(x, 0);
        x.meet(0, 6);
        Villages.buryAll(x, 6);
        x.tick(10);
        Due.is("none", x.villagerOf(6, 4), 0);
        Due.is("twelve would walk", x.ghosts(6, 0, 0), 12);
        Due.is("twelve are passed", x.meet(6, 0), 12);
        Due.is("twelve walked", x.villagerOf(6, 4), 12);
        Due.is("not to the one who passed them", x.villagerOf(0, 4), 0);
        Due.is("all", x.count(8), 12);
        Villages.buryAll(x, 6);
        x.tick(10);
        x.meet(0, 6);
        Due.is("so far", x.villagerOf(6, 4), 24);
        x.leave(6);
        Due.is("of one gone", x.villagerOf(6, 4), 24);
        Due.is("all, of one gone, too", x.count(8), 24);
    }

    private static void notAsleep() {
        Due.sentence("NOT_FOUND for 5 if the villager is not asleep");
        RumorTombs x = Villages.of(1);
        Due.is("never asleep", x.villagerOf(0, 5), Villages.NONE);
        x.tick(1);
        x.sleep(0);
        Due.is("asleep at once", x.villagerOf(0, 5), 0);
        x.tick(60);
        Due.is("asleep", x.villagerOf(0, 5), 60);
        x.wake(0);
        Due.is("awake", x.villagerOf(0, 5), Villages.NONE);
        x.sleep(0);
        x.leave(0);
        Due.is("gone in sleep", x.villagerOf(0, 5), Villages.NONE);
    }

    private static void countsOfVillagers() {
        Due.sentence("0: villagers; 1: those who are awake; 2: those who are asleep");
        RumorTombs x = new RumorTombs();
        for (int v = 0; v <= 7; v++) {
            Due.is("villagers", x.count(0), v);
            Due.is("awake", x.count(1), v);
            Due.is("asleep", x.count(2), 0);
            x.villager();
        }
        x.leave(0);
        x.sleep(6);
        Due.is("villagers, one is gone", x.count(0), 7);
        Due.is("awake, one is gone", x.count(1), 5);
        Due.is("asleep, one is gone", x.count(2), 1);
    }

    private static void countsOfEntries() {
        Due.sentence("5: rumors in all books; 6: copies of tombs in all books; 7: rumors in all books that are dead");
        RumorTombs x = Villages.of(7);
        Villages.tellAll(x, 0);
        for (int v = 1; v < 7; v++) {
            x.meet(0, v);
        }
        entries(x, 84, 0, 0, 0);
        Villages.buryAll(x, 6);
        entries(x, 72, 12, 72, 12);
        x.tick(10);
        entries(x, 72, 0, 72, 12);
        x.meet(6, 3);
        entries(x, 84, 0, 84, 12);
        Villages.buryAll(x, 6);
        for (int v = 0; v < 6; v++) {
            x.meet(6, v);
        }
        entries(x, 0, 84, 0, 24);
        Due.is("all are dropped", x.tick(10), 84);
        entries(x, 0, 0, 0, 24);
    }

    private static void entries(RumorTombs x, int rumors, int tombs, int dead, int made) {
        Due.is("rumors", x.count(5), rumors);
        Due.is("tombs", x.count(6), tombs);
        Due.is("dead", x.count(7), dead);
        Due.is("made", x.count(9), made);
    }
}
