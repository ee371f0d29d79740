/** The sentences about books and entries that name an edge: promises 8, 9, 11, 13, 14 and 15. */
public final class BookEdgesTest {
    public static void main(String[] args) {
        oneEntryOfATopic();
        theFirstVersion();
        theOwnClock();
        theGreaterVersion();
        theGreaterAuthor();
        theSameEntry();
        valuesAndKinds();
        tellOfOneNotAwake();
        buryOfOneNotAwake();
        buryWithoutARumor();
        buryOfAnothersRumor();
        whatATombHas();
        whatARumorHas();
        noEntry();
        newestOfAllBooks();
        newestOfNoBook();
        unlikeEntries();
        deadByANewerTomb();
        deadByATombThatIsNotThere();
        deadTopics();
        Due.end();
    }

    private static void oneEntryOfATopic() {
        Due.sentence("The book of a villager has one entry at most for each topic: a rumor or a tomb");
        RumorTombs x = Villages.of(1);
        for (int topic = 0; topic < 12; topic += 11) {
            int bit = 1 << topic;
            Due.is("none at first", x.villagerOf(0, 2) & bit, 0);
            x.tell(0, topic, 1, Villages.PLAIN);
            x.tell(0, topic, 2, Villages.SECRET);
            Due.is("one rumor", x.count(5), 1);
            Due.is("the later one", x.entryOf(0, topic, 3), 2);
            x.bury(0, topic);
            Due.is("no rumor, but a tomb", x.count(5), 0);
            Due.is("one tomb", x.count(6), 1);
            x.tell(0, topic, 3, Villages.PLAIN);
            Due.is("one rumor again", x.count(5), 1);
            Due.is("no tomb", x.count(6), 0);
            x.bury(0, topic);
            x.tick(10);
            Due.is("neither", x.count(5) + x.count(6), 0);
        }
    }

    private static void theFirstVersion() {
        Due.sentence("An entry has a version (1 or more) and an author, the villager who made it");
        for (int v = 0; v < 7; v++) {
            RumorTombs x = Villages.of(7);
            Due.is("the first version", x.tell(v, 11, 0, Villages.PLAIN), 1);
            Due.is("version", x.entryOf(v, 11, 1), 1);
            Due.is("author", x.entryOf(v, 11, 2), v);
            Due.is("the second version", x.bury(v, 11), 2);
            Due.is("version of the tomb", x.entryOf(v, 11, 1), 2);
            Due.is("author of the tomb", x.entryOf(v, 11, 2), v);
        }
    }

    private static void theOwnClock() {
        Due.sentence("Each villager has a clock, 0 at first. Who makes an entry adds 1 to the own clock");
        RumorTombs x = Villages.of(7);
        for (int v = 0; v < 7; v++) {
            Due.is("at first", x.villagerOf(v, 1), 0);
        }
        for (int i = 1; i <= 20; i++) {
            Due.is("version", i % 3 == 0 ? x.bury(6, 4) : x.tell(6, 4, i, Villages.PLAIN), i);
            Due.is("clock", x.villagerOf(6, 1), i);
        }
        for (int v = 0; v < 6; v++) {
            Due.is("clock of another", x.villagerOf(v, 1), 0);
        }
        x.tick(60);
        x.sleep(6);
        x.wake(6);
        Due.is("nothing else adds to it", x.villagerOf(6, 1), 20);
    }

    /** Who has the newest entry of topic 0 when one and other have told rumors of these versions. */
    private static int newest(int one, int version, int other, int otherVersion) {
        RumorTombs x = Villages.of(7);
        Villages.tellUpTo(x, one, 0, version);
        Villages.tellUpTo(x, other, 0, otherVersion);
        return x.newest(0);
    }

    private static void theGreaterVersion() {
        Due.sentence("the newer one is the one with the greater version");
        for (int version = 1; version <= 17; version++) {
            Due.is("version " + (version + 1) + " of 0 and " + version + " of 6", newest(0, version + 1, 6, version), 1);
            Due.is("version " + version + " of 0 and " + (version + 1) + " of 6", newest(0, version, 6, version + 1), 64);
        }
        Due.is("100 of 0 and 99 of 1", newest(0, 100, 1, 99), 1);
    }

    private static void theGreaterAuthor() {
        Due.sentence("of the same version the one with the greater author");
        for (int one = 0; one < 7; one++) {
            for (int other = one + 1; other < 7; other++) {
                Due.is("of " + one + " and " + other, newest(one, 1, other, 1), 1 << other);
                Due.is("of " + other + " and " + one, newest(other, 8, one, 8), 1 << other);
                RumorTombs x = Villages.of(7);
                x.tell(one, 0, one, Villages.PLAIN);
                x.tell(other, 0, other, Villages.PLAIN);
                Due.is("one is passed", x.meet(one, other), 1);
                Due.is("by " + other, x.entryOf(one, 0, 3), other);
            }
        }
    }

    private static void theSameEntry() {
        Due.sentence("with both the same they are the same entry");
        RumorTombs x = Villages.of(7);
        x.tell(0, 0, 1, Villages.PLAIN);
        x.meet(0, 6);
        Due.is("unlike", x.unlike(0, 6), 0);
        Due.is("nothing is passed", x.meet(6, 0), 0);
        Due.is("both have the newest one", x.newest(0), 65);
        x.bury(6, 0);
        Due.is("unlike with a tomb", x.unlike(0, 6), 1);
        x.meet(6, 0);
        Due.is("the same tomb", x.unlike(0, 6), 0);
        x.meet(6, 3);
        Due.is("the same tomb, told of more by one copy", x.unlike(0, 6), 0);
    }

    private static void valuesAndKinds() {
        Due.sentence("A rumor has a value, 0 to 99, and a kind: 0 plain, 1 whispered, 2 secret");
        for (int value : new int[] {0, 1, 98, 99}) {
            for (int kind = 0; kind <= 2; kind++) {
                for (int topic = 0; topic < 12; topic += 11) {
                    RumorTombs x = Villages.of(2);
                    Due.is("tell", x.tell(1, topic, value, kind), 1);
                    Due.is("value", x.entryOf(1, topic, 3), value);
                    Due.is("kind", x.entryOf(1, topic, 4), kind);
                }
            }
        }
    }

    private static void tellOfOneNotAwake() {
        Due.sentence("tell: NOT_POSSIBLE if the villager is not awake");
        RumorTombs x = Villages.of(1);
        x.sleep(0);
        Due.is("asleep", x.tell(0, 0, 0, Villages.PLAIN), Villages.IMPOSSIBLE);
        x.wake(0);
        Due.is("awake again", x.tell(0, 0, 0, Villages.PLAIN), 1);
        x.leave(0);
        Due.is("gone", x.tell(0, 0, 0, Villages.PLAIN), Villages.IMPOSSIBLE);
    }

    private static void buryOfOneNotAwake() {
        Due.sentence("bury: NOT_POSSIBLE if the villager is not awake");
        RumorTombs x = Villages.of(1);
        x.tell(0, 0, 0, Villages.PLAIN);
        x.tell(0, 11, 0, Villages.PLAIN);
        x.sleep(0);
        Due.is("asleep", x.bury(0, 0), Villages.IMPOSSIBLE);
        x.wake(0);
        Due.is("awake again", x.bury(0, 0), 3);
        x.leave(0);
        Due.is("gone", x.bury(0, 11), Villages.IMPOSSIBLE);
    }

    private static void buryWithoutARumor() {
        Due.sentence("or has no rumor of this topic");
        for (int topic = 0; topic < 12; topic += 11) {
            RumorTombs x = Villages.of(2);
            x.tell(1, topic, 0, Villages.PLAIN);
            x.tell(0, 5, 0, Villages.PLAIN);
            Due.is("another has one", x.bury(0, topic), Villages.IMPOSSIBLE);
            Due.is("its own", x.bury(1, topic), 2);
            Due.is("a tomb", x.bury(1, topic), Villages.IMPOSSIBLE);
            x.meet(0, 1);
            Due.is("a tomb that was passed", x.bury(0, topic), Villages.IMPOSSIBLE);
            x.tick(1);
            Due.is("a tomb that was dropped", x.bury(1, topic), Villages.IMPOSSIBLE);
            Due.is("another topic", x.bury(0, 5), 3);
        }
    }

    private static void buryOfAnothersRumor() {
        Due.sentence("Buries a rumor: its villager makes a tomb in its place");
        int[] kinds = {Villages.PLAIN, Villages.WHISPERED, Villages.SECRET};
        for (int kind : kinds) {
            RumorTombs x = Villages.of(2);
            x.tell(0, 3, 5, kind);
            x.meet(0, 1);
            Due.is("version", x.bury(1, 3), 2);
            Due.is("the tomb's author", x.entryOf(1, 3, 2), 1);
            Due.is("the author's rumor stays", x.entryOf(0, 3, 3), 5);
            Due.is("it is dead", x.entryOf(0, 3, 7), 1);
        }
    }

    private static void whatATombHas() {
        Due.sentence("A tomb has the time when it was made, and the set of the villagers who have seen it, its author at first");
        for (int v = 0; v < 7; v++) {
            RumorTombs x = Villages.of(7);
            x.tell(v, 0, 1, Villages.PLAIN);
            x.bury(v, 0);
            Due.is("made at first", x.entryOf(v, 0, 5), 0);
            Due.is("seen", x.entryOf(v, 0, 6), 1 << v);
            x.tell(v, 0, 1, Villages.PLAIN);
            x.tick(60);
            x.bury(v, 0);
            Due.is("made then", x.entryOf(v, 0, 5), 60);
            Due.is("seen anew", x.entryOf(v, 0, 6), 1 << v);
            x.tick(3);
            Due.is("made still", x.entryOf(v, 0, 5), 60);
        }
        RumorTombs x = Villages.of(2);
        Villages.passMostTime(x);
        x.tick(60);
        x.tick(40);
        x.tell(1, 11, 1, Villages.PLAIN);
        x.bury(1, 11);
        Due.is("made at the last tick", x.entryOf(1, 11, 5), 100000);
        Due.is("it is passed then, too", x.meet(0, 1), 1);
        Due.is("its time is passed", x.entryOf(0, 11, 5), 100000);
        x.tell(1, 11, 1, Villages.PLAIN);
        x.bury(1, 11);
        Due.is("a later tomb has its own seers", x.entryOf(1, 11, 6), 2);
    }

    private static void whatARumorHas() {
        Due.sentence("3: the value of a rumor; 4: the kind of a rumor; NOT_FOUND if it has no such thing");
        RumorTombs x = Villages.of(2);
        x.tell(1, 11, 0, Villages.PLAIN);
        int[] rumor = {0, 1, 1, 0, 0, Villages.NONE, Villages.NONE, 0};
        for (int what = 0; what <= 7; what++) {
            Due.is("entryOf a rumor, " + what, x.entryOf(1, 11, what), rumor[what]);
        }
        Due.sentence("5: the time when a tomb was made; 6: the villagers who have seen a tomb; NOT_FOUND if it has no such thing");
        x.bury(1, 11);
        int[] tomb = {1, 2, 1, Villages.NONE, Villages.NONE, 0, 2, Villages.NONE};
        for (int what = 0; what <= 7; what++) {
            Due.is("entryOf a tomb, " + what, x.entryOf(1, 11, what), tomb[what]);
        }
        Due.is("what 8 of a tomb", x.entryOf(1, 11, 8), Villages.INVALID);
        Due.is("what -1 of a tomb", x.entryOf(1, 11, -1), Villages.INVALID);
        Due.sentence("7: of a rumor 1 if it is dead, otherwise 0");
        x = Villages.of(2);
        x.tell(0, 0, 1, Villages.PLAIN);
        x.meet(0, 1);
        Due.is("not dead", x.entryOf(0, 0, 7), 0);
        x.bury(1, 0);
        Due.is("dead", x.entryOf(0, 0, 7), 1);
    }

    private static void noEntry() {
        Due.sentence("NOT_FOUND if there is no entry");
        RumorTombs x = Villages.of(7);
        x.tell(5, 11, 1, Villages.PLAIN);
        x.tell(6, 10, 1, Villages.PLAIN);
        x.tell(6, 9, 1, Villages.PLAIN);
        x.bury(6, 9);
        x.tick(10);
        for (int what = 0; what <= 7; what++) {
            Due.is("another has one, " + what, x.entryOf(6, 11, what), Villages.NONE);
            Due.is("it was dropped, " + what, x.entryOf(6, 9, what), Villages.NONE);
            Due.is("first book, first topic, " + what, x.entryOf(0, 0, what), Villages.NONE);
        }
        for (int what : new int[] {-1, 8}) {
            Due.is("no entry and no such what", x.entryOf(0, 0, what), Villages.INVALID);
        }
    }

    private static void newestOfAllBooks() {
        Due.sentence("Returns the villagers who have the newest entry of a topic of all books");
        RumorTombs x = Villages.of(7);
        x.tell(6, 11, 1, Villages.PLAIN);
        Due.is("the last one", x.newest(11), 64);
        for (int v = 0; v < 6; v++) {
            x.meet(6, v);
        }
        Due.is("all seven", x.newest(11), 127);
        x.tell(0, 11, 1, Villages.PLAIN);
        Due.is("the first one", x.newest(11), 1);
        x.sleep(0);
        Due.is("asleep", x.newest(11), 1);
        x.leave(0);
        Due.is("gone", x.newest(11), 126);
        x.bury(3, 11);
        Due.is("a tomb is an entry", x.newest(11), 8);
        x.tick(10);
        Due.is("dropped", x.newest(11), 118);
    }

    private static void newestOfNoBook() {
        Due.sentence("NOT_FOUND if no book has an entry of it");
        RumorTombs x = Villages.of(2);
        for (int topic = 0; topic < 12; topic++) {
            Due.is("never told", x.newest(topic), Villages.NONE);
        }
        x.tell(0, 0, 1, Villages.PLAIN);
        Due.is("of another topic", x.newest(1), Villages.NONE);
        x.bury(0, 0);
        x.tick(10);
        Due.is("all are dropped", x.newest(0), Villages.NONE);
        x.tell(1, 0, 1, Villages.PLAIN);
        x.leave(1);
        Due.is("who had it is gone", x.newest(0), Villages.NONE);
    }

    private static void unlikeEntries() {
        Due.sentence("Returns the topics of which two villagers have unlike entries (of which one may have none)");
        RumorTombs x = Villages.of(7);
        Due.is("both have none", x.unlike(0, 6), 0);
        x.tell(6, 0, 1, Villages.PLAIN);
        Due.is("the first topic", x.unlike(0, 6), 1);
        x.tell(6, 11, 1, Villages.PLAIN);
        Due.is("the first and the last one", x.unlike(6, 0), 1 | 1 << 11);
        Villages.tellAll(x, 6);
        Due.is("all, one has none", x.unlike(0, 6), 4095);
        Villages.tellAll(x, 0);
        Due.is("all, of other authors", x.unlike(0, 6), 4095);
        Due.is("with oneself", x.unlike(6, 6), 0);
        x.meet(0, 6);
        Due.is("none", x.unlike(0, 6), 0);
        x.tell(0, 4, 1, Villages.PLAIN);
        Due.is("one", x.unlike(0, 6), 16);
        x.sleep(0);
        x.leave(6);
        Due.is("asleep and gone", x.unlike(0, 6), 4095);
    }

    /** Villager 3 has a rumor of this version when the villager has made a tomb of this version. */
    private static int deadBeside(int rumor, int villager, int tomb) {
        RumorTombs x = Villages.of(7);
        Villages.tellUpTo(x, 3, 0, rumor);
        Villages.tellUpTo(x, villager, 0, tomb - 1);
        x.bury(villager, 0);
        Due.is("dead(3)", x.dead(3), x.entryOf(3, 0, 7));
        return x.dead(3);
    }

    private static void deadByANewerTomb() {
        Due.sentence("A rumor is dead if a newer tomb of its topic was ever made by somebody");
        for (int version = 2; version <= 17; version++) {
            for (int v = 0; v < 7; v++) {
                if (v != 3) {
                    Due.is("tomb of " + v + ", one older", deadBeside(version + 1, v, version), 0);
                    Due.is("tomb of " + v + ", the same", deadBeside(version, v, version), v > 3 ? 1 : 0);
                    Due.is("tomb of " + v + ", one newer", deadBeside(version - 1, v, version), 1);
                }
            }
        }
        RumorTombs x = Villages.of(2);
        x.tell(0, 0, 1, Villages.PLAIN);
        x.tell(1, 1, 1, Villages.PLAIN);
        x.bury(1, 1);
        Due.is("a tomb of another topic", x.dead(0), 0);
    }

    private static void deadByATombThatIsNotThere() {
        Due.sentence("A rumor is dead if a newer tomb of its topic was ever made by somebody");
        RumorTombs x = Villages.of(3);
        x.tell(0, 0, 1, Villages.PLAIN);
        x.meet(0, 1);
        x.bury(1, 0);
        x.tell(1, 0, 1, Villages.PLAIN);
        Due.is("another entry came in its place", x.dead(0), 1);
        Due.is("the newer rumor is not dead", x.dead(1), 0);
        x.leave(1);
        Due.is("its author is gone", x.dead(0), 1);
        x.tick(60);
        Due.is("its watch is over", x.dead(0), 1);
        Due.is("told later with the least version", x.tell(2, 0, 1, Villages.PLAIN), 1);
        Due.is("dead from the start", x.dead(2), 1);
        x.tell(2, 0, 1, Villages.PLAIN);
        Due.is("the version of the tomb, a greater author", x.dead(2), 0);
    }

    private static void deadTopics() {
        Due.sentence("Returns the topics of which a villager has a dead rumor");
        RumorTombs x = Villages.of(2);
        Due.is("an empty book", x.dead(0), 0);
        Villages.tellAll(x, 0);
        x.meet(0, 1);
        Due.is("none", x.dead(0), 0);
        x.bury(1, 11);
        Due.is("the last one", x.dead(0), 1 << 11);
        x.bury(1, 0);
        Due.is("the first one, too", x.dead(0), 1 | 1 << 11);
        Villages.buryAll(x, 1);
        Due.is("all", x.dead(0), 4095);
        Due.is("tombs are not dead rumors", x.dead(1), 0);
        x.sleep(0);
        Due.is("asleep", x.dead(0), 4095);
        x.leave(0);
        Due.is("gone", x.dead(0), 0);
    }
}
