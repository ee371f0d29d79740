/** What many tests begin with: the errors and kinds by short names, and villages of several sorts. */
public final class Villages {
    public static final int INVALID = RumorTombs.INVALID_ARGUMENT;
    public static final int IMPOSSIBLE = RumorTombs.NOT_POSSIBLE;
    public static final int LIMIT = RumorTombs.LIMIT_REACHED;
    public static final int NONE = RumorTombs.NOT_FOUND;

    public static final int PLAIN = 0;
    public static final int WHISPERED = 1;
    public static final int SECRET = 2;

    private Villages() {
    }

    public static RumorTombs of(int villagers) {
        RumorTombs x = new RumorTombs();
        for (int i = 0; i < villagers; i++) {
            x.villager();
        }
        return x;
    }

    /** Puts this text in the place of the one that is there. */
    public static void write(RumorTombs x, String text) {
        x.clearText();
        for (int i = 0; i < text.length(); i++) {
            x.type(text.charAt(i));
        }
    }

    /** Some 180 calls that let 99900 ticks go by; the text is empty then. */
    public static void passMostTime(RumorTombs x) {
        write(x, "n60;".repeat(15));
        for (int i = 0; i < 111; i++) {
            x.play();
        }
        x.clearText();
    }

    /** Tells plain rumors of all topics. */
    public static void tellAll(RumorTombs x, int villager) {
        for (int topic = 0; topic < 12; topic++) {
            x.tell(villager, topic, 50 + topic, PLAIN);
        }
    }

    public static void buryAll(RumorTombs x, int villager) {
        for (int topic = 0; topic < 12; topic++) {
            x.bury(villager, topic);
        }
    }

    /** Tells rumors of one topic until its author's newest one has this version. */
    public static void tellUpTo(RumorTombs x, int villager, int topic, int version) {
        while (x.villagerOf(villager, 1) < version) {
            x.tell(villager, topic, 1, PLAIN);
        }
    }
}
