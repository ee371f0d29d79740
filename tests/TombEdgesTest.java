/** The sentences about tombs and ghosts that name an edge: promises 12 and 16. */
public final class TombEdgesTest {
    public static void main(String[] args) {
        ticksAtOnce();
        seenByAll();
        seenByAllWhoAreNotGone();
        asThisCopyTells();
        asTheWatchTells();
        anotherWatch();
        onlyByATick();
        noEntryThen();
        sleepersDrop();
        theLastTick();
        ghostsByWhatWasDropped();
        ghostsByWhoDropped();
        ghostsOfDeadRumors();
        ghostsOfAll();
        ghostsBehindTicks();
        ghostsOfSleepers();
        ghostsOfOneGone();
        ghostsNearTheLastTick();
        Due.end();
    }

    /** Villager v of some has made a tomb of topic 0 at the time 0. */
    private static RumorTombs buried(int villagers, int v) {
        RumorTombs x = Villages.of(villagers);
        x.tell(v, 0, 42, Villages.PLAIN);
        x.bury(v, 0);
        return x;
    }

    private static void ticksAtOnce() {
        Due.sentence("Lets ticks go by. ticks: 1 to 60");
        RumorTombs x = new RumorTombs();
        int time = 0;
        for (int ticks = 1; ticks <= 60; ticks++) {
            Due.is("tick(" + ticks + ")", x.tick(ticks), 0);
            time += ticks;
            Due.is("the time", x.count(3), time);
        }
        Due.is("tick(0)", x.tick(0), Villages.INVALID);
        Due.is("tick(61)", x.tick(61), Villages.INVALID);
        Due.is("the time still", x.count(3), time);
    }

    private static void seenByAll() {
        Due.sentence("drops each tomb in the own book that all villagers who are not gone have seen (as this copy tells)");
        for (int villagers = 1; villagers <= 7; villagers++) {
            RumorTombs x = buried(villagers, 0);
            x.watch(60);
            for (int v = 1; v < villagers; v++) {
                Due.is(v + " of " + villagers + " have seen it", x.tick(1), 0);
                x.meet(0, v);
            }
            Due.is("all " + villagers + " have seen it", x.tick(1), villagers == 1 ? 1 : 2);
        }
    }

    private static void seenByAllWhoAreNotGone() {
        Due.sentence("all villagers who are not gone");
        for (int missing = 0; missing < 7; missing++) {
            int author = missing == 0 ? 1 : 0;
            RumorTombs x = buried(7, author);
            x.watch(60);
            for (int v = 0; v < 7; v++) {
                if (v != missing && v != author) {
                    x.meet(author, v);
                }
            }
            Due.is(missing + " has not seen it", x.tick(1), 0);
            x.sleep(missing);
            Due.is("nor asleep", x.tick(1), 0);
            x.leave(missing);
            Due.is("but is gone", x.tick(1), 2);
        }
        RumorTombs x = buried(2, 0);
        x.meet(0, 1);
        x.villager();
        Due.is("a villager who came later has not seen it", x.tick(1), 0);
        x.leave(1);
        Due.is("one who has seen it is gone", x.tick(1), 0);
        x.leave(2);
        Due.is("all who are left have seen it", x.tick(1), 1);
    }

    private static void asThisCopyTells() {
        Due.sentence("(as this copy tells)");
        RumorTombs x = buried(7, 0);
        for (int v = 1; v < 7; v++) {
            x.meet(v - 1, v);
        }
        Due.is("the last two copies alone tell of all", x.tick(1), 2);
        for (int v = 0; v < 7; v++) {
            Due.is("book of " + v, x.villagerOf(v, 3), v < 5 ? 1 : 0);
        }
        Due.is("it comes again", x.meet(4, 5), 1);
        Due.is("seen", x.entryOf(5, 0, 6), 63);
        x.meet(4, 6);
        Due.is("two copies tell of all again", x.tick(1), 2);
    }

    private static void asTheWatchTells() {
        Due.sentence("or that was made so many ticks ago as the watch tells, or more");
        for (int watch = 1; watch <= 60; watch++) {
            for (int start = 0; start <= 7; start += 7) {
                RumorTombs x = Villages.of(2);
                x.watch(watch);
                if (start > 0) {
                    x.tick(start);
                }
                x.tell(1, 11, 1, Villages.PLAIN);
                x.bury(1, 11);
                if (watch > 1) {
                    Due.is("one tick less than the watch of " + watch, x.tick(watch - 1), 0);
                }
                Due.is("the watch of " + watch, x.tick(1), 1);
            }
        }
        RumorTombs x = buried(2, 0);
        Due.is("at once", x.tick(10), 1);
        x = buried(2, 0);
        Due.is("more, at once", x.tick(60), 1);
        x = buried(2, 0);
        Due.is("nine at once", x.tick(9), 0);
        x = buried(2, 0);
        x.watch(60);
        Due.is("59 at once", x.tick(59), 0);
        Due.is("and one more", x.tick(1), 1);
    }

    private static void anotherWatch() {
        Due.sentence("as the watch tells");
        RumorTombs x = buried(2, 0);
        x.tick(9);
        x.watch(11);
        Due.is("a longer watch, not over", x.tick(1), 0);
        Due.is("a longer watch, over", x.tick(1), 1);
        x = buried(2, 0);
        x.tick(5);
        x.watch(1);
        Due.is("a shorter watch, over long ago", x.tick(1), 1);
        x = buried(2, 0);
        x.tick(5);
        x.tell(1, 1, 1, Villages.PLAIN);
        x.bury(1, 1);
        Due.is("of two tombs the older one", x.tick(5), 1);
        Due.is("which is dropped", x.villagerOf(0, 3), 0);
        Due.is("the other one is not", x.villagerOf(1, 3), 2);
        x.meet(0, 1);
        x.villager();
        Due.is("a copy is as old as its tomb", x.tick(5), 2);
    }

    private static void onlyByATick() {
        Due.sentence("When a tick has gone by");
        RumorTombs x = buried(4, 0);
        x.tick(5);
        x.meet(0, 1);
        x.watch(1);
        x.sleep(1);
        x.leave(2);
        x.leave(3);
        x.wake(1);
        x.play();
        x.meet(0, 1);
        Due.is("seen by all", x.entryOf(0, 0, 6), 3);
        Due.is("nothing else drops a tomb", x.count(6), 2);
        Due.is("but a tick does", x.tick(1), 2);
    }

    private static void noEntryThen() {
        Due.sentence("Then the book has no entry of this topic");
        RumorTombs x = buried(1, 0);
        x.tell(0, 11, 1, Villages.PLAIN);
        x.tell(0, 10, 1, Villages.PLAIN);
        x.bury(0, 11);
        Due.is("two copies", x.tick(1), 2);
        for (int what = 0; what <= 7; what++) {
            Due.is("entryOf(0, 0, " + what + ")", x.entryOf(0, 0, what), Villages.NONE);
            Due.is("entryOf(0, 11, " + what + ")", x.entryOf(0, 11, what), Villages.NONE);
        }
        Due.is("rumors stay", x.villagerOf(0, 2), 1 << 10);
        Due.is("no copies", x.tick(60), 0);
        Due.is("rumors stay for long", x.villagerOf(0, 2), 1 << 10);
    }

    private static void sleepersDrop() {
        Due.sentence("each villager who is awake or asleep drops each tomb in the own book");
        RumorTombs x = buried(3, 0);
        x.meet(0, 1);
        x.meet(0, 2);
        x.meet(1, 2);
        x.sleep(1);
        Due.is("one is asleep", x.tick(1), 3);
        x = buried(3, 0);
        x.sleep(0);
        Due.is("its author sleeps, the watch is over", x.tick(10), 1);
        x.wake(0);
        Due.is("awake again", x.villagerOf(0, 3), 0);
    }

    private static void theLastTick() {
        Due.sentence("LIMIT_REACHED if the time would be above 100000");
        for (int left = 0; left <= 60; left += left == 1 ? 58 : 1) {
            RumorTombs x = Villages.of(1);
            Villages.passMostTime(x);
            x.tick(40);
            if (left < 60) {
                x.tick(60 - left);
            }
            Due.is("the time", x.count(3), 100000 - left);
            if (left < 60) {
                Due.is("one tick too many", x.tick(left + 1), Villages.LIMIT);
                Due.is("most ticks", x.tick(60), Villages.LIMIT);
            }
            Due.is("61 ticks", x.tick(61), Villages.INVALID);
            Due.is("the time still", x.count(3), 100000 - left);
            if (left > 0) {
                Due.is("up to the last tick", x.tick(left), 0);
            }
            Due.is("the last tick", x.count(3), 100000);
            Due.is("no tick more", x.tick(1), Villages.LIMIT);
            Due.is("no ticks", x.tick(0), Villages.INVALID);
        }
    }

    private static void ghostsByWhatWasDropped() {
        Due.sentence("who has dropped some newer tomb of this topic before (by a tick;");
        RumorTombs x = Villages.of(3);
        x.tell(1, 0, 66, Villages.PLAIN);
        x.meet(1, 0);
        x.bury(0, 0);
        Due.is("not dropped yet", x.ghosts(0, 1, 9), 0);
        x.tick(10);
        Due.is("dropped", x.ghosts(0, 1, 0), 1);
        Due.is("nobody else has dropped it", x.ghosts(2, 1, 0), 0);
        Due.is("another topic", x.tell(1, 1, 1, Villages.PLAIN), 2);
        Due.is("dropped, and one entry more", x.ghosts(0, 1, 0), 1);
        Due.is("of the tomb's version, by a greater author", x.tell(1, 0, 67, Villages.PLAIN), 3);
        Due.is("not dead", x.ghosts(0, 1, 0), 0);

        Due.sentence("a tomb in whose place another entry came was not dropped");
        x = Villages.of(3);
        x.tell(1, 0, 66, Villages.PLAIN);
        x.meet(1, 0);
        x.bury(0, 0);
        x.tell(0, 0, 1, Villages.PLAIN);
        x.tick(60);
        Due.is("nothing walks", x.ghosts(0, 1, 0), 0);
        x.bury(0, 0);
        Due.is("another tomb, not dropped yet", x.ghosts(0, 1, 0), 0);
        x.tick(10);
        Due.is("but now", x.ghosts(0, 1, 0), 1);
    }

    private static void ghostsByWhoDropped() {
        Due.sentence("A ghost walks when a dead rumor is passed to a villager who has dropped some newer tomb");
        RumorTombs x = Villages.of(4);
        x.tell(3, 0, 66, Villages.PLAIN);
        x.meet(3, 0);
        x.bury(0, 0);
        x.meet(0, 1);
        x.meet(3, 2);
        x.leave(0);
        x.tick(10);
        Due.is("who had a copy from another", x.ghosts(1, 3, 0), 1);
        Due.is("by another than the author", x.ghosts(2, 1, 0), 1);
        Due.is("who had none", x.ghosts(2, 3, 0), 0);
        x.meet(1, 2);
        Due.is("walked to 1", x.villagerOf(1, 4), 1);
        Due.is("not to 2", x.villagerOf(2, 4), 0);
        Due.is("the same rumor is not passed again", x.ghosts(1, 3, 0), 0);
        Due.is("all ghosts", x.count(8), 1);

        x = Villages.of(2);
        x.tell(0, 0, 1, Villages.PLAIN);
        x.meet(0, 1);
        x.bury(0, 0);
        x.meet(0, 1);
        x.tick(1);
        Due.is("both have dropped it, no rumor is left", x.ghosts(0, 1, 0), 0);
        x.villager();
        x.tell(2, 0, 1, Villages.PLAIN);
        Due.is("seen by all, and then dropped", x.ghosts(1, 2, 0), 1);
        Due.is("of both", x.ghosts(2, 0, 60), 1);
    }

    private static void ghostsOfDeadRumors() {
        Due.sentence("A ghost walks when a dead rumor is passed");
        RumorTombs x = Villages.of(7);
        Villages.tellUpTo(x, 0, 0, 4);
        x.bury(0, 0);
        x.tick(10);
        for (int v = 1; v < 7; v++) {
            for (int version = 1; version <= 6; version++) {
                x.tell(v, 0, version, Villages.PLAIN);
                Due.is("version " + version + " of " + v + " beside a tomb of version 5", x.ghosts(0, v, 0),
                        version < 5 ? 1 : 0);
            }
        }
        x = Villages.of(7);
        Villages.tellUpTo(x, 6, 0, 4);
        x.bury(6, 0);
        x.tick(10);
        for (int version = 1; version <= 6; version++) {
            x.tell(5, 0, version, Villages.PLAIN);
            Due.is("version " + version + " of 5 beside a tomb of 6", x.ghosts(6, 5, 0), version <= 5 ? 1 : 0);
        }
        x = Villages.of(3);
        x.tell(1, 0, 66, Villages.WHISPERED);
        x.meet(1, 0);
        x.meet(1, 2);
        x.bury(0, 0);
        x.tick(10);
        Due.is("a whispered one by its author", x.ghosts(0, 1, 0), 1);
        Due.is("a whispered one by another is not passed", x.ghosts(0, 2, 0), 0);
    }

    private static void ghostsOfAll() {
        Due.sentence("Tells how many ghosts would walk");
        RumorTombs x = Villages.of(2);
        Due.is("none", x.ghosts(0, 1, 0), 0);
        for (int topic = 0; topic < 12; topic++) {
            x.tell(topic % 2, topic, 1, Villages.PLAIN);
        }
        x.meet(0, 1);
        for (int topic = 0; topic < 12; topic++) {
            x.bury(topic / 6, topic);
        }
        x.tick(10);
        Due.is("six to each", x.ghosts(0, 1, 0), 12);
        Due.is("six to each, the other way", x.ghosts(1, 0, 60), 12);
        Due.is("twelve are passed", x.meet(0, 1), 12);
        Due.is("to 0", x.villagerOf(0, 4), 6);
        Due.is("to 1", x.villagerOf(1, 4), 6);
        Due.is("no more", x.ghosts(0, 1, 60), 0);
    }

    private static void ghostsBehindTicks() {
        Due.sentence("if two villagers met (as if both were awake) behind some ticks, and nothing else happened till then");
        for (int watch : new int[] {1, 2, 59, 60}) {
            RumorTombs x = Villages.of(3);
            x.watch(watch);
            x.tell(1, 0, 66, Villages.PLAIN);
            x.meet(1, 0);
            x.bury(0, 0);
            for (int ticks = 0; ticks <= 60; ticks++) {
                Due.is("behind " + ticks + " of " + watch, x.ghosts(0, 1, ticks), ticks >= watch ? 1 : 0);
            }
            Due.is("behind 61", x.ghosts(0, 1, 61), Villages.INVALID);
            Due.is("behind -1", x.ghosts(0, 1, -1), Villages.INVALID);
            Due.is("the time", x.count(3), 0);
            Due.is("the tomb", x.count(6), 1);
        }
        RumorTombs x = Villages.of(2);
        x.tell(1, 0, 66, Villages.PLAIN);
        x.meet(1, 0);
        x.bury(0, 0);
        x.sleep(1);
        x.tick(9);
        x.watch(1);
        Due.is("over, but no tick has gone by", x.ghosts(0, 1, 0), 0);
        Due.is("over, behind a tick", x.ghosts(0, 1, 1), 1);
    }

    private static void ghostsOfSleepers() {
        Due.sentence("(as if both were awake)");
        RumorTombs x = Villages.of(3);
        x.tell(1, 0, 66, Villages.PLAIN);
        x.meet(1, 0);
        x.bury(0, 0);
        x.tick(10);
        x.sleep(0);
        Due.is("one asleep", x.ghosts(0, 1, 0), 1);
        x.sleep(1);
        Due.is("both asleep", x.ghosts(0, 1, 0), 1);
        Due.is("both asleep, the other way", x.ghosts(1, 0, 60), 1);
        Due.is("they are asleep still", x.count(2), 2);
        Due.is("and can not meet", x.meet(0, 1), Villages.IMPOSSIBLE);
    }

    private static void ghostsOfOneGone() {
        Due.sentence("NOT_POSSIBLE if one of them is gone");
        RumorTombs x = Villages.of(3);
        x.leave(1);
        x.sleep(0);
        Due.is("other", x.ghosts(0, 1, 0), Villages.IMPOSSIBLE);
        Due.is("one", x.ghosts(1, 0, 60), Villages.IMPOSSIBLE);
        Due.is("one, and too many ticks", x.ghosts(1, 0, 61), Villages.INVALID);
        Due.is("both the same", x.ghosts(1, 1, 0), Villages.INVALID);
        Due.is("no such other one", x.ghosts(1, 3, 0), Villages.INVALID);
        Due.is("both are there", x.ghosts(0, 2, 0), 0);
        x.leave(2);
        Due.is("both are gone", x.ghosts(1, 2, 0), Villages.IMPOSSIBLE);
    }

    private static void ghostsNearTheLastTick() {
        Due.sentence("INVALID_ARGUMENT if an argument is out of range or both are the same; NOT_POSSIBLE if one of them is gone");
        RumorTombs x = Villages.of(2);
        Villages.passMostTime(x);
        x.tick(60);
        x.tick(40);
        x.tell(0, 0, 1, Villages.PLAIN);
        x.meet(0, 1);
        x.bury(1, 0);
        Due.is("at the last tick", x.ghosts(0, 1, 0), 0);
        Due.is("no limit is named", x.ghosts(0, 1, 9), 0);
        Due.is("no limit is named, the watch is over", x.ghosts(0, 1, 10), 1);
        Due.is("no limit is named, 60", x.ghosts(0, 1, 60), 1);
        Due.is("the time", x.count(3), 100000);
    }
}
