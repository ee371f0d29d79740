/** The sentences about texts that name an edge: promises 21 to 24. */
public final class TextEdgesTest {
    public static void main(String[] args) {
        sixtyCharacters();
        theLengthItHad();
        anotherText();
        lettersOfOrders();
        signsInOrders();
        numbersOfOrders();
        digits();
        moreOrFewerNumbers();
        withoutItsEnd();
        noSuchVillagerOrTopic();
        notPossibleOtherwise();
        ticksOfOrders();
        theLeastReason();
        theFirstOrder();
        whenThoseAheadAreDone();
        noFault();
        theLastTick();
        howManyOrders();
        oneChange();
        playWithAFault();
        Due.end();
    }

    /** Villagers 0 and 1 are awake, 2 is asleep, 3 is gone; 0 has a rumor of topic 0. */
    private static RumorTombs village(String text) {
        RumorTombs x = Villages.of(4);
        x.tell(0, 0, 5, Villages.PLAIN);
        x.sleep(2);
        x.leave(3);
        Villages.write(x, text);
        return x;
    }

    private static void fault(String text, int position, int reason) {
        Due.is("fault(0) of " + text, village(text).fault(0), position);
        Due.is("fault(1) of " + text, village(text).fault(1), reason);
        Due.is("play() of " + text, village(text).play(), Villages.IMPOSSIBLE);
    }

    private static void fine(String text, int orders) {
        Due.is("fault(0) of " + text, village(text).fault(0), Villages.NONE);
        Due.is("fault(1) of " + text, village(text).fault(1), Villages.NONE);
        Due.is("play() of " + text, village(text).play(), orders);
    }

    /** The reason of a text of one order, or 0 if it has no fault. */
    private static void order(String order, int reason) {
        if (reason == 0) {
            fine(order, 1);
        } else {
            fault(order, 0, reason);
            fault("n1;n60;" + order, 7, reason);
        }
    }

    private static void sixtyCharacters() {
        Due.sentence("There is a text of at most 60 characters, initially empty");
        RumorTombs x = new RumorTombs();
        Due.is("at first", x.count(11), 0);
        for (int length = 1; length <= 60; length++) {
            Due.is("type", x.type(length % 2 == 0 ? 32 : 126), length);
            Due.is("count(11)", x.count(11), length);
        }
        Due.is("the 61st", x.type('n'), Villages.LIMIT);
        Due.is("the 61st again", x.type(126), Villages.LIMIT);
        Due.is("out of range and full", x.type(127), Villages.INVALID);
        Due.is("out of range and full, too low", x.type(31), Villages.INVALID);
        Due.is("length", x.count(11), 60);
        Due.is("clearText", x.clearText(), 60);
        Due.is("from the start", x.type('n'), 1);
    }

    private static void theLengthItHad() {
        Due.sentence("Empties the text. Returns the length it had");
        RumorTombs x = new RumorTombs();
        Due.is("empty", x.clearText(), 0);
        for (int length = 0; length <= 20; length++) {
            Villages.write(x, "n".repeat(length));
            Due.is("clearText", x.clearText(), length);
            Due.is("count(11)", x.count(11), 0);
            Due.is("clearText again", x.clearText(), 0);
            Due.is("fault", x.fault(0), Villages.NONE);
        }
    }

    private static void anotherText() {
        Due.sentence("Appends a character to the text");
        RumorTombs x = village("n10;n20;n30;");
        Villages.write(x, "n1");
        Due.is("what was there before is gone, position", x.fault(0), 0);
        Due.is("what was there before is gone, reason", x.fault(1), 1);
        x.type('5');
        Due.is("still not ended", x.fault(1), 1);
        x.type(';');
        Due.is("ended", x.fault(0), Villages.NONE);
        x.type('n');
        Due.is("the next one begins", x.fault(0), 4);
        x.type('2');
        x.type(';');
        Due.is("two orders", x.play(), 2);
        Due.is("of their ticks", x.count(3), 17);
    }

    private static void lettersOfOrders() {
        Due.sentence("its reason is 1 if it is not of this form");
        for (char sign = 32; sign <= 126; sign++) {
            order(sign + "1;", sign == 's' || sign == 'n' ? 0 : sign == 'w' ? 3 : 1);
            order(sign + "0,1;", sign == 'm' ? 0 : sign == 'b' ? 3 : 1);
            order(sign + "0,1,2;", sign == 't' ? 0 : 1);
            if (sign != ';') {
                order(sign + ";", 1);
                order("" + sign, 1);
            }
        }
        fault(";", 0, 1);
        fault("n1;;", 3, 1);
        fault(";n1;", 0, 1);
    }

    private static void signsInOrders() {
        Due.sentence("its reason is 1 if it is not of this form");
        for (char sign = 32; sign <= 126; sign++) {
            boolean digit = sign >= '0' && sign <= '9';
            order("n" + sign + ";", sign == '0' ? 3 : digit ? 0 : 1);
            order("m0" + sign + "1;", sign == ',' ? 0 : 1);
            order("t0" + sign + "11,99;", sign == ',' ? 0 : 1);
            order("t0,11" + sign + "99;", sign == ',' ? 0 : 1);
            order("t0,11,99" + sign, sign == ';' ? 0 : 1);
            order("b0" + sign + "0;", sign == ',' ? 0 : 1);
            order("s0" + sign, sign == ';' ? 0 : 1);
            if (sign != ';') {
                order("n1" + sign + "3;", 1);
                order("n1" + sign + ";", digit ? 0 : 1);
                order("t0,0" + sign + ",1;", digit ? 0 : 1);
                order("m0," + sign + ";", sign == '1' ? 0 : sign == '0' || sign == '2' || sign == '3' ? 3 : digit ? 2 : 1);
            }
        }
    }

    private static void numbersOfOrders() {
        Due.sentence("2 if there is no such villager or topic");
        for (int number = 0; number <= 99; number++) {
            for (String n : number < 10 ? new String[] {"" + number, "0" + number} : new String[] {"" + number}) {
                boolean none = number > 3;
                order("s" + n + ";", none ? 2 : number < 2 ? 0 : 3);
                order("w" + n + ";", none ? 2 : number == 2 ? 0 : 3);
                order("m" + n + ",0;", none ? 2 : number == 1 ? 0 : 3);
                order("m1," + n + ";", none ? 2 : number == 0 ? 0 : 3);
                order("b" + n + ",0;", none ? 2 : number == 0 ? 0 : 3);
                order("b0," + n + ";", number > 11 ? 2 : number == 0 ? 0 : 3);
                order("t" + n + ",11,9;", none ? 2 : number < 2 ? 0 : 3);
                order("t1," + n + ",9;", number > 11 ? 2 : 0);
                order("t1,0," + n + ";", 0);
                order("n" + n + ";", number >= 1 && number <= 60 ? 0 : 3);
            }
        }
    }

    private static void digits() {
        Due.sentence("numbers of 1 or 2 digits, 0 ahead allowed");
        String[] ends = {"", "00", "000", "01", "001", "0001", "100", "010", "-1", "+1", " 1", "1 ", "1.", "0x1"};
        for (String n : ends) {
            int due = n.equals("01") ? 0 : n.equals("00") ? 3 : 1;
            order("n" + n + ";", due);
            order("s" + n + ";", n.equals("00") ? 0 : due);
            order("m0," + n + ";", due);
            order("m" + n + ",0;", due);
            order("b" + n + ",0;", n.equals("00") ? 0 : due == 0 ? 3 : due);
            order("b0," + n + ";", n.equals("00") ? 0 : due == 0 ? 3 : due);
            order("t" + n + ",0,0;", n.equals("00") ? 0 : due);
            order("t0," + n + ",0;", n.equals("00") ? 0 : due);
            order("t0,0," + n + ";", n.equals("00") ? 0 : due);
        }
        order("n99999999999999999999;", 1);
        order("s4294967296;", 1);
        RumorTombs x = village("t00,00,09;t01,11,90;");
        Due.is("play", x.play(), 2);
        Due.is("09", x.entryOf(0, 0, 3), 9);
        Due.is("90", x.entryOf(1, 11, 3), 90);
    }

    private static void moreOrFewerNumbers() {
        Due.sentence("its reason is 1 if it is not of this form");
        String numbers = "";
        for (int many = 0; many <= 5; many++) {
            order("t" + numbers + ";", many == 3 ? 0 : 1);
            order("b" + numbers + ";", many == 2 ? 3 : 1);
            order("m" + numbers + ";", many == 2 ? 0 : 1);
            order("s" + numbers + ";", many == 1 ? 0 : 1);
            order("w" + numbers + ";", many == 1 ? 3 : 1);
            order("n" + numbers + ";", many == 1 ? 3 : 1);
            order("t" + numbers + ",;", 1);
            order("s" + numbers + ",;", 1);
            order("m," + numbers + ";", 1);
            numbers += many == 0 ? "0" : "," + many;
        }
    }

    private static void withoutItsEnd() {
        Due.sentence("its \";\" included");
        String[] orders = {"t0,1,2;", "m0,1;", "s0;", "w2;", "n60;", "b0,0;"};
        for (String order : orders) {
            for (int length = 1; length < order.length(); length++) {
                fault(order.substring(0, length), 0, 1);
                fault("n1;" + order.substring(0, length), 3, 1);
            }
            fine(order, 1);
        }
        fault("n1;n1", 3, 1);
        fault("s0", 0, 1);
        fault("s9", 0, 1);
        fault("s0n1;", 0, 1);
    }

    private static void noSuchVillagerOrTopic() {
        Due.sentence("2 if there is no such villager or topic");
        for (int villagers = 0; villagers <= 7; villagers++) {
            RumorTombs x = Villages.of(villagers);
            for (int v = 0; v <= 7; v++) {
                Villages.write(x, "s" + v + ";");
                Due.is("s" + v + " of " + villagers, x.fault(1), v < villagers ? Villages.NONE : 2);
                Villages.write(x, "t" + v + ",0,0;");
                Due.is("t" + v + " of " + villagers, x.fault(1), v < villagers ? Villages.NONE : 2);
            }
        }
        order("t0,11,0;", 0);
        order("t0,12,0;", 2);
        order("b0,12;", 2);
        order("b0,11;", 3);
        order("m0,4;", 2);
        order("m4,0;", 2);
        order("m4,4;", 2);
    }

    private static void notPossibleOtherwise() {
        Due.sentence("3 if it is not possible otherwise (by what tell, bury, meet, sleep, wake and tick tell");
        order("t2,0,0;", 3);
        order("t3,0,0;", 3);
        order("b0,1;", 3);
        order("b1,0;", 3);
        order("b2,0;", 3);
        order("b3,0;", 3);
        order("m0,2;", 3);
        order("m2,0;", 3);
        order("m0,3;", 3);
        order("m3,1;", 3);
        order("s2;", 3);
        order("s3;", 3);
        order("w0;", 3);
        order("w3;", 3);
        Due.sentence("ticks out of their range and a villager told twice, too");
        order("m0,0;", 3);
        order("m1,01;", 3);
        order("m2,2;", 3);
        order("m3,3;", 3);
        fault("b0,0;b0,0;", 5, 3);
    }

    private static void ticksOfOrders() {
        Due.sentence("ticks out of their range and a villager told twice, too");
        order("n0;", 3);
        order("n00;", 3);
        order("n1;", 0);
        order("n01;", 0);
        order("n60;", 0);
        order("n61;", 3);
        order("n99;", 3);
        order("n100;", 1);
    }

    private static void theLeastReason() {
        Due.sentence("its reason is 1 if it is not of this form, its \";\" included, 2 if there is no such villager or topic");
        order("s9", 1);
        order("m9,9", 1);
        order("t9,99,999;", 1);
        order("m0,0,0;", 1);
        order("t2,12,0;", 2);
        order("t3,99,99;", 2);
        order("b2,12;", 2);
        order("b1,12;", 2);
        order("m2,4;", 2);
        order("m4,3;", 2);
    }

    private static void theFirstOrder() {
        Due.sentence("The fault of the text is the position, from 0, of the first character of the first order that is not possible");
        for (int position = 0; position <= 59; position++) {
            if (position != 1 && position != 2) {
                String ahead = ordersOfLength(position);
                fault(ahead + "n", position, 1);
                if (position <= 57) {
                    fault(ahead + "s9;", position, 2);
                    fault(ahead + "n0;", position, 3);
                }
                if (position <= 54) {
                    fault(ahead + "n0;s9;", position, 3);
                    fault(ahead + "s9;n0;", position, 2);
                    fault(ahead + "n0;n", position, 3);
                    fault(ahead + "n;n0;", position, 1);
                }
            }
        }
        fine(ordersOfLength(60), 20);
        fine(ordersOfLength(59), 19);
    }

    /** Orders that are possible, which together have this length: 0, or 3 and more. */
    private static String ordersOfLength(int length) {
        String[] rest = {"", "n60;", "m0,1;"};
        if (length % 3 == 0) {
            return "n1;".repeat(length / 3);
        }
        String longer = rest[length % 3];
        return "n1;".repeat((length - longer.length()) / 3) + longer;
    }

    private static void whenThoseAheadAreDone() {
        Due.sentence("when those ahead of it are done");
        fine("s0;w0;s0;w0;", 4);
        fault("s0;s0;", 3, 3);
        fault("s0;w0;w0;", 6, 3);
        fine("w2;m2,0;", 2);
        fault("m2,0;w2;", 0, 3);
        fine("m0,1;b1,0;", 2);
        fault("b1,0;m0,1;", 0, 3);
        fine("b0,0;t0,0,1;b0,0;", 3);
        fault("b0,0;m0,1;b1,0;", 10, 3);
        fine("t1,0,1;m0,1;b0,0;b1,0;", 4);
        fault("b0,0;n10;b0,0;", 9, 3);
        fine("s0;n60;w0;t0,1,1;", 4);
        fault("s0;n60;t0,1,1;w0;", 7, 3);
        RumorTombs x = village("s0;");
        Due.is("not yet", x.fault(0), Villages.NONE);
        x.sleep(0);
        Due.is("asleep", x.fault(1), 3);
        x.wake(0);
        Due.is("awake again", x.fault(0), Villages.NONE);
        x.leave(0);
        Due.is("gone", x.fault(0), 0);
    }

    private static void noFault() {
        Due.sentence("NOT_FOUND if the text has no fault (also if it is empty)");
        fine("", 0);
        Due.is("a new object", new RumorTombs().fault(0), Villages.NONE);
        Due.is("a new object, reason", new RumorTombs().fault(1), Villages.NONE);
        RumorTombs x = village("s9;");
        Due.is("a fault", x.fault(0), 0);
        x.clearText();
        Due.is("emptied", x.fault(0), Villages.NONE);
        Due.is("emptied, reason", x.fault(1), Villages.NONE);
        Due.is("emptied, what 2", x.fault(2), Villages.INVALID);
        Due.is("emptied, what -1", x.fault(-1), Villages.INVALID);
    }

    private static void theLastTick() {
        Due.sentence("3 if it is not possible otherwise (by what .. tick tell");
        for (int left : new int[] {0, 1, 2, 59, 60}) {
            RumorTombs x = Villages.of(1);
            Villages.passMostTime(x);
            x.tick(40);
            if (left < 60) {
                x.tick(60 - left);
            }
            Villages.write(x, "s0;n" + left + ";n1;");
            Due.is("position with " + left + " left", x.fault(0), left == 0 ? 3 : left < 10 ? 6 : 7);
            Due.is("reason with " + left + " left", x.fault(1), 3);
            Due.is("play with " + left + " left", x.play(), Villages.IMPOSSIBLE);
            Due.is("the time", x.count(3), 100000 - left);
            Villages.write(x, left == 0 ? "" : "n" + left + ";");
            Due.is("no fault with " + left + " left", x.fault(0), Villages.NONE);
            Due.is("up to the last tick", x.play(), left == 0 ? 0 : 1);
            Due.is("the last tick", x.count(3), 100000);
        }
    }

    private static void howManyOrders() {
        Due.sentence("Returns how many there are in it");
        for (int orders = 0; orders <= 20; orders++) {
            fine("n1;".repeat(orders), orders);
        }
        Due.sentence("Does all orders of the text, which stays");
        RumorTombs x = village("n10;".repeat(15));
        Due.is("play", x.play(), 15);
        Due.is("the time", x.count(3), 150);
        Due.is("the text", x.count(11), 60);
        Due.is("play again", x.play(), 15);
        Due.is("the time then", x.count(3), 300);
        x = village("t1,11,7;m1,0;b0,11;s1;w2;n3;");
        Due.is("one of each", x.play(), 6);
        Due.is("the rumor is plain", x.entryOf(1, 11, 4), Villages.PLAIN);
        Due.is("its value", x.entryOf(1, 11, 3), 7);
        Due.is("it is dead", x.entryOf(1, 11, 7), 1);
        Due.is("the tomb", x.entryOf(0, 11, 0), 1);
        Due.is("who sleeps", x.villagerOf(1, 0), 1);
        Due.is("since when", x.villagerOf(1, 5), 3);
        Due.is("who is awake", x.villagerOf(2, 0), 0);
        Due.is("the time", x.count(3), 3);
    }

    private static void oneChange() {
        Due.sentence("They are one change, also if there are none");
        for (int orders = 0; orders <= 20; orders++) {
            RumorTombs x = new RumorTombs();
            x.watch(20);
            Villages.write(x, "n1;".repeat(orders));
            Due.is("play", x.play(), orders);
            Due.is("states", x.count(10), 2);
            Due.is("undo", x.undo(), 1);
            Due.is("the time", x.count(3), 0);
            Due.is("the text stays", x.count(11), 3 * orders);
        }
        RumorTombs x = new RumorTombs();
        for (int i = 1; i <= 6; i++) {
            Due.is("no orders", x.play(), 0);
            Due.is("states", x.count(10), Math.min(i, 4));
        }
    }

    private static void playWithAFault() {
        Due.sentence("NOT_POSSIBLE if it has a fault");
        for (String fault : new String[] {"n", "s9;", "n0;", ";"}) {
            RumorTombs x = village("t0,1,1;n5;s0;" + fault);
            Due.is("play", x.play(), Villages.IMPOSSIBLE);
            Due.is("the time", x.count(3), 0);
            Due.is("no rumor", x.entryOf(0, 1, 0), Villages.NONE);
            Due.is("the clock", x.villagerOf(0, 1), 1);
            Due.is("awake", x.villagerOf(0, 0), 0);
            Due.is("states", x.count(10), 4);
            Due.is("the text", x.count(11), 13 + fault.length());
            Due.is("play again", x.play(), Villages.IMPOSSIBLE);
        }
    }
}
