/** Counts the answers that are not as due, prints them, and ends a test with its exit code. */
public final class Due {
    private static int asked = 0;
    private static int wrong = 0;
    private static String sentence = "";

    private Due() {
    }

    /** Tells which sentence of the document the answers from now on are about. */
    public static void sentence(String words) {
        sentence = "\"" + words + "\": ";
    }

    public static void is(String call, long got, long want) {
        asked++;
        if (got != want) {
            wrong++;
            System.out.println(sentence + call + " answered " + got + ", due is " + want);
        }
    }

    public static void isNot(String call, long got, long wrongOne) {
        asked++;
        if (got == wrongOne) {
            wrong++;
            System.out.println(sentence + call + " answered " + got + ", which is not due");
        }
    }

    public static boolean allRight() {
        return wrong == 0;
    }

    public static void end() {
        System.out.println(asked + " answers looked at, " + wrong + " not as due");
        if (wrong != 0 || asked == 0) {
            System.exit(1);
        }
    }
}
