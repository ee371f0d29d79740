/** The sentences about meetings that name an edge: promises 10, 17 and 18. */
public final class MeetingEdgesTest {
    public static void main(String[] args) {
        everyTwo();
        oneNotAwake();
        withOneself();
        clocks();
        noneToSomeToAll();
        bothWays();
        newerAndOlder();
        whatMayAlwaysBePassed();
        whisperedByItsAuthor();
        secretToAGreaterNumber();
        whatMayNotBePassedStays();
        seenByBoth();
        theSameTombThen();
        copiesOfTheirOwn();
        bestOfSeveral();
        bestOfTheGreatestNumbers();
        fewerThanTwoAreAwake();
        roundsOfFew();
        roundsOfSome();
        roundsOfNoEnd();
        roundsWithSleepers();
        Due.end();
    }

    private static void everyTwo() {
        Due.sentence("Two villagers who are awake can meet");
        for (int one = 0; one < 7; one++) {
            for (int other = 0; other < 7; other++) {
                if (one != other) {
                    RumorTombs x = Villages.of(7);
                    x.tell(other, 11, 1, Villages.PLAIN);
                    Due.is(one + " meets " + other, x.meet(one, other), 1);
                    Due.is("and has it", x.entryOf(one, 11, 2), other);
                    Due.is("so do both alone", x.newest(11), 1 << one | 1 << other);
                }
            }
        }
    }

    private static void oneNotAwake() {
        Due.sentence("NOT_POSSIBLE if one of them is not awake");
        RumorTombs x = Villages.of(4);
        x.sleep(1);
        x.leave(2);
        int[] able = {1, 0, 0, 1};
        for (int one = 0; one < 4; one++) {
            for (int other = 0; other < 4; other++) {
                int due = one == other ? Villages.INVALID : able[one] * able[other] == 1 ? 0 : Villages.IMPOSSIBLE;
                Due.is(one + " meets " + other, x.meet(one, other), due);
            }
        }
        x.wake(1);
        Due.is("awake again", x.meet(0, 1), 0);
    }

    private static void withOneself() {
        Due.sentence("INVALID_ARGUMENT if an argument is out of range or both are the same");
        RumorTombs x = Villages.of(3);
        x.sleep(1);
        x.leave(2);
        for (int v = -1; v <= 3; v++) {
            Due.is(v + " meets " + v, x.meet(v, v), Villages.INVALID);
            Due.is(v + " meets nobody", x.meet(v, 3), Villages.INVALID);
            Due.is("nobody meets " + v, x.meet(-1, v), Villages.INVALID);
        }
    }

    private static void clocks() {
        Due.sentence("Both clocks become the greater one of both");
        clocks(0, 0);
        clocks(0, 1);
        clocks(1, 0);
        clocks(7, 7);
        clocks(8, 7);
        clocks(7, 9);
        clocks(0, 100);
    }

    private static void clocks(int ofOne, int ofOther) {
        RumorTombs x = Villages.of(7);
        Villages.tellUpTo(x, 0, 0, ofOne);
        Villages.tellUpTo(x, 6, 0, ofOther);
        int due = Math.max(ofOne, ofOther);
        x.meet(0, 6);
        Due.is("clock of one", x.villagerOf(0, 1), due);
        Due.is("clock of other", x.villagerOf(6, 1), due);
        Due.is("clock of another", x.villagerOf(3, 1), 0);
        x.meet(3, 0);
        Due.is("clock of another who meets one then", x.villagerOf(3, 1), due);
        Due.is("the next version", x.tell(0, 1, 1, Villages.PLAIN), due + 1);

        x = Villages.of(3);
        Villages.tellUpTo(x, 2, 0, 5);
        x.bury(2, 0);
        x.tick(10);
        Due.is("no entry is passed", x.meet(2, 0), 0);
        Due.is("but the clock", x.villagerOf(0, 1), 6);
    }

    private static void noneToSomeToAll() {
        Due.sentence("Returns how many entries were passed");
        for (int entries = 0; entries <= 12; entries++) {
            RumorTombs x = Villages.of(2);
            for (int topic = 12 - entries; topic < 12; topic++) {
                x.tell(1, topic, topic, Villages.PLAIN);
            }
            Due.is("would be passed", x.bestMeeting(1), entries);
            Due.is("are passed", x.meet(0, 1), entries);
            Due.is("are there", Integer.bitCount(x.villagerOf(0, 2)), entries);
            Due.is("none is passed again", x.meet(0, 1), 0);
        }
    }

    private static void bothWays() {
        Due.sentence("if one has a newer entry than the other one has, or the other one has none, this entry is passed");
        RumorTombs x = Villages.of(2);
        for (int topic = 0; topic < 12; topic++) {
            x.tell(topic % 2, topic, topic, Villages.PLAIN);
        }
        Due.is("both have no entry that the other one has", x.meet(1, 0), 12);
        Due.is("all with 0", x.villagerOf(0, 2), 4095);
        Due.is("all with 1", x.villagerOf(1, 2), 4095);
        for (int topic = 0; topic < 12; topic++) {
            Due.is("value with 0", x.entryOf(0, topic, 3), topic);
            Due.is("value with 1", x.entryOf(1, topic, 3), topic);
            Due.is("author with 0", x.entryOf(0, topic, 2), topic % 2);
            Due.is("author with 1", x.entryOf(1, topic, 2), topic % 2);
        }
    }

    private static void newerAndOlder() {
        Due.sentence("if one has a newer entry than the other one has");
        for (int version = 1; version <= 9; version++) {
            for (int otherVersion = 1; otherVersion <= 9; otherVersion++) {
                RumorTombs x = Villages.of(2);
                Villages.tellUpTo(x, 0, 4, version);
                Villages.tellUpTo(x, 1, 4, otherVersion);
                Due.is("passed", x.meet(0, 1), 1);
                int author = version > otherVersion ? 0 : 1;
                Due.is("author with 0", x.entryOf(0, 4, 2), author);
                Due.is("author with 1", x.entryOf(1, 4, 2), author);
                Due.is("version", x.entryOf(0, 4, 1), Math.max(version, otherVersion));
            }
        }
    }

    /** Villager 3 of 7 has told a rumor of topic 5; it is of version 1. */
    private static RumorTombs told(int kind) {
        RumorTombs x = Villages.of(7);
        x.tell(3, 5, 42, kind);
        return x;
    }

    private static void whatMayAlwaysBePassed() {
        Due.sentence("A plain rumor and a tomb may always be passed");
        RumorTombs x = told(Villages.PLAIN);
        Due.is("by the author, to a lower one", x.meet(2, 3), 1);
        Due.is("by another, to a lower one", x.meet(1, 2), 1);
        Due.is("by another, to a greater one", x.meet(6, 1), 1);
        x.leave(3);
        Due.is("its author is gone", x.meet(0, 6), 1);
        for (int kind = 0; kind <= 2; kind++) {
            x = told(kind);
            x.bury(3, 5);
            Due.is("a tomb, to a lower one", x.meet(3, 2), 1);
            Due.is("by another, to a lower one", x.meet(2, 0), 1);
            Due.is("by another, to a greater one", x.meet(0, 6), 1);
            Due.is("its author", x.entryOf(6, 5, 2), 3);
        }
    }

    private static void whisperedByItsAuthor() {
        Due.sentence("A whispered rumor may be passed by its author alone");
        for (int v = 0; v < 7; v++) {
            if (v != 3) {
                RumorTombs x = told(Villages.WHISPERED);
                Due.is("to " + v, x.meet(v, 3), 1);
                Due.is("its kind", x.entryOf(v, 5, 4), Villages.WHISPERED);
                for (int next = 0; next < 7; next++) {
                    if (next != v && next != 3) {
                        Due.is("by " + v + " to " + next, x.meet(v, next), 0);
                        Due.is("is not there", x.entryOf(next, 5, 0), Villages.NONE);
                    }
                }
            }
        }
    }

    private static void secretToAGreaterNumber() {
        Due.sentence("A secret one may be passed by its author alone, too, and only to a villager with a greater number");
        for (int author = 0; author < 7; author++) {
            for (int v = 0; v < 7; v++) {
                if (v != author) {
                    RumorTombs x = Villages.of(7);
                    x.tell(author, 5, 42, Villages.SECRET);
                    int due = v > author ? 1 : 0;
                    Due.is(author + " meets " + v, x.meet(author, v), due);
                    Due.is(v + " meets " + author, x.meet(v, author), 0);
                    Due.is("there", x.villagerOf(v, 2), due << 5);
                }
            }
        }
        RumorTombs x = told(Villages.SECRET);
        Due.is("to the next one", x.meet(4, 3), 1);
        for (int v = 0; v < 7; v++) {
            if (v != 3 && v != 4) {
                Due.is("by another to " + v, x.meet(4, v), 0);
            }
        }
    }

    private static void whatMayNotBePassedStays() {
        Due.sentence("this entry is passed to the other one, if it may be");
        RumorTombs x = Villages.of(3);
        x.tell(2, 0, 20, Villages.PLAIN);
        x.tell(2, 0, 21, Villages.SECRET);
        x.tell(0, 0, 1, Villages.PLAIN);
        Due.is("the newer one may not, the older one is not", x.meet(0, 2), 0);
        Due.is("the older one stays", x.entryOf(0, 0, 3), 1);
        Due.is("the newer one stays", x.entryOf(2, 0, 3), 21);
        Due.is("a clock that came makes a newer one", x.tell(0, 0, 2, Villages.PLAIN), 3);
        Due.is("it is passed", x.meet(0, 2), 1);
        Due.is("in the place of the secret one", x.entryOf(2, 0, 4), Villages.PLAIN);

        x = Villages.of(3);
        x.tell(0, 0, 1, Villages.PLAIN);
        x.bury(0, 0);
        x.tell(2, 0, 1, Villages.PLAIN);
        x.tell(2, 0, 1, Villages.PLAIN);
        x.tell(2, 0, 30, Villages.SECRET);
        Due.is("a tomb beside a newer secret one", x.meet(0, 2), 0);
        Due.is("seen by its author alone", x.entryOf(0, 0, 6), 1);
    }

    private static void seenByBoth() {
        Due.sentence("If both have the same tomb (then), both have seen it");
        for (int one = 0; one < 7; one++) {
            for (int other = 0; other < 7; other++) {
                if (one != other) {
                    RumorTombs x = Villages.of(7);
                    x.tell(one, 11, 1, Villages.PLAIN);
                    x.bury(one, 11);
                    x.meet(one, other);
                    Due.is("with " + one, x.entryOf(one, 11, 6), 1 << one | 1 << other);
                    Due.is("with " + other, x.entryOf(other, 11, 6), 1 << one | 1 << other);
                    x.undo();
                    x.meet(other, one);
                    Due.is("with " + one + ", called by " + other, x.entryOf(one, 11, 6), 1 << one | 1 << other);
                    Due.is("with " + other + ", calling", x.entryOf(other, 11, 6), 1 << one | 1 << other);
                }
            }
        }
        RumorTombs x = Villages.of(7);
        x.tell(0, 11, 1, Villages.PLAIN);
        x.bury(0, 11);
        for (int v = 1; v < 7; v++) {
            x.meet(0, v);
        }
        Due.is("all seven", x.entryOf(0, 11, 6), 127);
        Due.is("all seven, with the last one", x.entryOf(6, 11, 6), 127);
        Due.is("not with the first one of them", x.entryOf(1, 11, 6), 3);
    }

    private static void theSameTombThen() {
        Due.sentence("both copies tell of all villagers of whom one of both told");
        RumorTombs x = Villages.of(7);
        x.tell(0, 0, 1, Villages.PLAIN);
        x.bury(0, 0);
        x.meet(0, 1);
        x.meet(1, 2);
        x.meet(0, 3);
        Due.is("nothing is passed", x.meet(2, 3), 0);
        Due.is("with 2", x.entryOf(2, 0, 6), 15);
        Due.is("with 3", x.entryOf(3, 0, 6), 15);
        x.leave(0);
        x.meet(3, 4);
        Due.is("of one gone, too", x.entryOf(4, 0, 6), 31);
        x.meet(1, 6);
        Due.is("of those of whom its giver told", x.entryOf(6, 0, 6), 71);
        x.meet(1, 4);
        Due.is("of those of whom one told, with 1", x.entryOf(1, 0, 6), 95);
        Due.is("of those of whom one told, with 4", x.entryOf(4, 0, 6), 95);
        x.meet(6, 3);
        Due.is("of those of whom the other one told", x.entryOf(6, 0, 6), 95);
        Villages.tellUpTo(x, 5, 0, 3);
        x.bury(5, 0);
        Due.is("another tomb is passed", x.meet(5, 4), 1);
        Due.is("the other tomb's seers", x.entryOf(4, 0, 6), 48);
        Due.is("the other tomb's seers, with 5", x.entryOf(5, 0, 6), 48);
    }

    private static void copiesOfTheirOwn() {
        Due.sentence("Each book has a copy of its own of a tomb");
        RumorTombs x = Villages.of(3);
        x.tell(0, 0, 1, Villages.PLAIN);
        x.bury(0, 0);
        x.meet(0, 1);
        x.meet(1, 2);
        Due.is("with 0", x.entryOf(0, 0, 6), 3);
        Due.is("with 1", x.entryOf(1, 0, 6), 7);
        Due.is("dropped by those whose copies tell of all", x.tick(1), 2);
        Due.is("0 has it still", x.entryOf(0, 0, 0), 1);
        Due.is("it is passed again", x.meet(0, 1), 1);
        Due.is("as the copy of 0 tells", x.entryOf(1, 0, 6), 3);
    }

    private static void bestOfSeveral() {
        Due.sentence("of several the lowest one first, then the lowest other one");
        RumorTombs x = Villages.of(7);
        Due.is("none, 0 and 1", x.bestMeeting(0), 1);
        Due.is("none, how many", x.bestMeeting(1), 0);
        x.sleep(0);
        Due.is("none, 1 and 2", x.bestMeeting(0), 12);
        x.wake(0);
        x.tell(6, 0, 1, Villages.PLAIN);
        Due.is("0 and 6 rather than 1 and 6", x.bestMeeting(0), 6);
        x.tell(5, 1, 1, Villages.PLAIN);
        Due.is("most", x.bestMeeting(0), 56);
        x.tell(4, 2, 1, Villages.PLAIN);
        Due.is("4 and 5 rather than 4 and 6 or 5 and 6", x.bestMeeting(0), 45);
        x.tell(0, 3, 1, Villages.PLAIN);
        Due.is("0 and 4 rather than 0 and 5 or 4 and 5", x.bestMeeting(0), 4);
        Due.is("how many", x.bestMeeting(1), 2);
    }

    private static void bestOfTheGreatestNumbers() {
        Due.sentence("0: ten times the lower one plus the greater one; 1: how many entries");
        RumorTombs x = Villages.of(7);
        for (int topic = 0; topic < 12; topic++) {
            x.tell(5 + topic % 2, topic, 1, Villages.PLAIN);
        }
        Due.is("the greatest two", x.bestMeeting(0), 56);
        Due.is("all entries", x.bestMeeting(1), 12);
        x.meet(5, 6);
        Due.is("the lowest one", x.bestMeeting(0), 5);
        Due.is("all entries still", x.bestMeeting(1), 12);
        x = Villages.of(7);
        x.tell(6, 0, 1, Villages.SECRET);
        Due.is("what may not be passed does not count", x.bestMeeting(1), 0);
        x.tell(5, 1, 1, Villages.SECRET);
        x.tell(5, 2, 1, Villages.SECRET);
        Due.is("to a greater one", x.bestMeeting(0), 56);
        Due.is("to a greater one, how many", x.bestMeeting(1), 2);
    }

    private static void fewerThanTwoAreAwake() {
        Due.sentence("NOT_FOUND if fewer than two are awake");
        RumorTombs x = Villages.of(3);
        x.tell(0, 0, 1, Villages.PLAIN);
        x.sleep(0);
        Due.is("two", x.bestMeeting(0), 12);
        Due.is("two, how many", x.bestMeeting(1), 0);
        x.leave(1);
        Due.is("one", x.bestMeeting(0), Villages.NONE);
        Due.is("one, how many", x.bestMeeting(1), Villages.NONE);
        x.sleep(2);
        Due.is("nobody", x.bestMeeting(0), Villages.NONE);
        Due.is("no villager", new RumorTombs().bestMeeting(1), Villages.NONE);
        Due.is("one villager", Villages.of(1).bestMeeting(1), Villages.NONE);
        Due.is("two villagers", Villages.of(2).bestMeeting(0), 1);
    }

    private static void roundsOfFew() {
        Due.sentence("Tells behind how many rounds all villagers who are awake would have the same entries");
        for (int villagers = 0; villagers <= 7; villagers++) {
            Due.is("of " + villagers + " without entries", Villages.of(villagers).rounds(), 0);
        }
        RumorTombs x = Villages.of(1);
        x.tell(0, 0, 1, Villages.SECRET);
        Due.is("of one villager", x.rounds(), 0);
        Due.sentence("two of them meet once");
        x.villager();
        x.tell(1, 1, 1, Villages.WHISPERED);
        Due.is("of two villagers", x.rounds(), 1);
        x.meet(0, 1);
        Due.is("of two who have met", x.rounds(), 0);
        x.tell(1, 2, 1, Villages.SECRET);
        Due.is("of two, a secret one to the lower one", x.rounds(), Villages.NONE);
    }

    private static void roundsOfSome() {
        Due.sentence("In a round each of them, by their numbers, meets the next one of them (the last one the first one)");
        for (int villagers = 2; villagers <= 7; villagers++) {
            for (int author = 0; author < villagers; author++) {
                RumorTombs x = Villages.of(villagers);
                x.tell(author, 11, 1, Villages.PLAIN);
                // In the first round 1 meets 2 before 2 meets 3, so what 3 tells comes to 2 and not to 1.
                int due = author <= 2 ? 1 : 2;
                Due.is("of " + villagers + ", told by " + author, x.rounds(), due);
            }
        }
        RumorTombs x = Villages.of(7);
        for (int v = 0; v < 7; v++) {
            x.tell(v, v, v, Villages.PLAIN);
            x.tell(v, 11, v, Villages.PLAIN);
        }
        Due.is("of 7 who all know something", x.rounds(), 2);
        Due.is("nothing was passed", x.villagerOf(0, 2), 1 | 1 << 11);
        Due.is("no clock came", x.villagerOf(0, 1), 2);
    }

    private static void roundsOfNoEnd() {
        Due.sentence("NOT_FOUND if it does not come by 7 rounds");
        for (int villagers = 2; villagers <= 7; villagers++) {
            for (int author = 0; author < villagers; author++) {
                RumorTombs x = Villages.of(villagers);
                x.tell(author, 0, 1, Villages.WHISPERED);
                Due.is("whispered, of " + villagers, x.rounds(), villagers <= 3 ? 1 : Villages.NONE);
                x = Villages.of(villagers);
                x.tell(author, 0, 1, Villages.SECRET);
                Due.is("secret, of " + villagers + " by " + author, x.rounds(),
                        villagers <= 3 && author == 0 ? 1 : Villages.NONE);
            }
        }
    }

    private static void roundsWithSleepers() {
        Due.sentence("all villagers who are awake would have the same entries");
        RumorTombs x = Villages.of(7);
        x.tell(2, 0, 1, Villages.WHISPERED);
        x.tell(6, 1, 1, Villages.SECRET);
        for (int v = 0; v < 7; v++) {
            if (v != 0 && v != 2 && v != 4) {
                x.sleep(v);
            }
        }
        Due.is("three are awake", x.rounds(), 1);
        x.leave(4);
        Due.is("two are awake", x.rounds(), 1);
        x.sleep(0);
        Due.is("one is awake", x.rounds(), 0);
        x.sleep(2);
        Due.is("nobody is awake", x.rounds(), 0);
        x.wake(0);
        x.wake(6);
        Due.is("the first and the last one", x.rounds(), Villages.NONE);
    }
}
