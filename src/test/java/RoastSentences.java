/** The sentences on a ROAST: what goes in, MINUTE by MINUTE, and what comes out. */
final class RoastSentences {
    private static final int NONE = House.NONE;
    private static final int NOTHING = -2;
    /** With no fire and the fastest drum W is 200, 182, 165 .. 48 (MINUTE 11), 38, 29, 20 (MINUTE 14). */
    private static final String COLD = "fire 0 when 1; drum 9 when 1;";
    /** With all fire and no drum W is 200, 227, 253 .. 384 (MINUTE 8), and 18 more would be 402. */
    private static final String HOT = "fire 9 when 1; drum 0 when 1;";

    private final Sheet sheet;

    RoastSentences(Sheet sheet) {
        this.sheet = sheet;
    }

    void all() {
        sheet.section("Terms 2");
        gramsOfRoast();
        minutesFromZero();
        atFirst();
        curve();
        linesInOrder();
        fromThenOn();
        drop();
        growth();
        leastAndMostWarmth();
        end();
        loss();
        whatComesOut();
    }

    /** A house behind a roast of 1,000 grams by a text. */
    private House roastBy(String text) {
        House x = sheet.house().lots(1);
        x.due(0, x.read(text));
        x.due(0, x.roast(0, 1000));
        return x;
    }

    private void dueRoast(String text, int minutes, int warmth, int dropped) {
        House x = roastBy(text);
        x.due(minutes, x.roasted(0));
        x.due(warmth, x.roasted(1));
        x.due(dropped, x.roasted(3));
    }

    private void gramsOfRoast() {
        sheet.says("A ROAST of so many grams of a LOT (1 .. 20000, not more than are left; taken from it):");
        House x = sheet.house().lots(1).dropping();
        x.due(NONE, x.roast(0, -1));
        x.due(NONE, x.roast(0, 0));
        x.due(NONE, x.roast(0, 20001));
        x.due(100000, x.part(NONE, 0));
        x.due(NOTHING, x.roast(0, 1));
        x.due(99999, x.part(NONE, 0));
        x.due(0, x.roast(0, 2));
        x.due(99997, x.part(NONE, 0));
        x.due(1, x.roast(0, 19999));
        x.due(79998, x.part(NONE, 0));
        x.due(2, x.roast(0, 20000));
        x.due(59998, x.part(NONE, 0));
        x.due(1, x.lot(500, 5, 5, 5, 5));
        x.due(NONE, x.roast(1, 501));
        x.due(500, x.part(NONE, 1));
        x.due(3, x.roast(1, 499));
        x.due(1, x.part(NONE, 1));
        x.due(NONE, x.roast(1, 2));
        x.due(NOTHING, x.roast(1, 1));
        x.due(0, x.part(NONE, 1));
        x.due(NONE, x.roast(1, 1));
        x.due(2, x.lot(300, 5, 5, 5, 5));
        x.due(4, x.roast(2, 300));
        x.due(0, x.part(NONE, 2));
        // Left over 20000 grams, 20000 are the most; left just 20000, they go.
        x.due(3, x.lot(20001, 5, 5, 5, 5));
        x.due(NONE, x.roast(3, 20001));
        x.due(5, x.roast(3, 1000));
        x.due(NONE, x.roast(3, 19002));
        x.due(6, x.roast(3, 19001));
        x.due(0, x.part(NONE, 3));
    }

    private void minutesFromZero() {
        sheet.says("by MINUTES from 0.");
        dueRoast("drop when minute = 0;", 0, 200, 1);
        dueRoast("drop when minute = 1;", 1, 206, 1);
        dueRoast("drop when minute < 0;", 20, 283, 0);
    }

    private void atFirst() {
        sheet.says("Warmth W is 200, fire 5, drum 5 at first.");
        String[] names = {"warmth", "fire", "drum"};
        int[] first = {200, 5, 5};
        for (int i = 0; i < names.length; i++) {
            dueRoast("drop when minute = 0 and " + names[i] + " = " + (first[i] - 1) + ";", 20, 283, 0);
            dueRoast("drop when minute = 0 and " + names[i] + " = " + first[i] + ";", 0, 200, 1);
            dueRoast("drop when minute = 0 and " + names[i] + " = " + (first[i] + 1) + ";", 20, 283, 0);
        }
        // The next ROAST begins so, too.
        House x = roastBy(HOT);
        x.due(0, x.read("drop when warmth = 200 and fire = 5 and drum = 5;"));
        x.due(1, x.roast(0, 1000));
        x.due(0, x.roasted(0));
        x.due(1, x.roasted(3));
    }

    private void curve() {
        sheet.says("The told CURVE has a warmth for MINUTES 0 .. 19 (0 .. 400 each, 200 at first).");
        House first = sheet.house().lots(1);
        for (int minute = 0; minute < 20; minute++) {
            first.due(0, first.read("drop when told = 200 and minute = " + minute + ";"));
            first.due(minute, first.roast(0, 100));
            first.due(minute, first.roasted(0));
        }
        House x = sheet.house().lots(1);
        int[] held = {0, 1, 399, 400};
        int bag = 0;
        for (int minute : new int[] {0, 1, 18, 19}) {
            for (int warmth : held) {
                x.due(true, x.curve(minute, warmth));
                x.due(false, x.curve(minute, -1));
                x.due(false, x.curve(minute, 401));
                x.due(0, x.read("drop when told = " + warmth + " and minute = " + minute + ";"));
                x.due(bag, x.roast(0, 100));
                x.due(minute, x.roasted(0));
                bag++;
            }
        }
        x.due(false, x.curve(-1, 200));
        x.due(false, x.curve(20, 200));
    }

    private void linesInOrder() {
        sheet.says("In each MINUTE the text's lines are gone through in order; each whose E is not 0 acts:");
        // The later line of two that act is the one that holds: 36 - 9 - 5, 0 - 9 - 5.
        dueRoast("fire 0 when 1; fire 9 when 1; drop when minute;", 1, 222, 1);
        dueRoast("fire 9 when 1; fire 0 when 1; drop when minute;", 1, 186, 1);
        // A line sees what a line ahead of it did in the same MINUTE.
        dueRoast("fire 9 when 1; drop when fire = 9;", 0, 200, 1);
        dueRoast("drop when fire = 9; fire 9 when 1;", 1, 222, 1);
        // E of 1 and of -1 acts, of 0 not.
        dueRoast("drop when 1;", 0, 200, 1);
        dueRoast("drop when 0;", 20, 283, 0);
        dueRoast("drop when 0 - 1;", 0, 200, 1);
        dueRoast("drop when minute - 1;", 0, 200, 1);
        dueRoast("drop when minute;", 1, 206, 1);
        // In each MINUTE, the last one, too.
        dueRoast("drop when minute = 18;", 18, 278, 1);
        dueRoast("drop when minute = 19;", 19, 281, 1);
        // The first and the last of 16 lines act.
        String idle = "fire 1 when 0;";
        dueRoast("drop when 1;" + idle.repeat(15), 0, 200, 1);
        dueRoast(idle.repeat(15) + "drop when 1;", 0, 200, 1);
        // No line at all.
        dueRoast("", 20, 283, 0);
    }

    private void fromThenOn() {
        sheet.says("fire N, drum N: so it is from then on;");
        // 206, then 206 + 36 - 9 - 5 = 228, then 228 + 36 - 10 - 5 = 249.
        dueRoast("fire 9 when minute = 1; drop when minute = 1;", 1, 206, 1);
        dueRoast("fire 9 when minute = 1; drop when minute = 2;", 2, 228, 1);
        dueRoast("fire 9 when minute = 1; drop when minute = 3;", 3, 249, 1);
        // 206, then 206 + 20 - 9 - 0 = 217, then 217 + 20 - 9 - 0 = 228.
        dueRoast("drum 0 when minute = 1; drop when minute = 2;", 2, 217, 1);
        dueRoast("drum 0 when minute = 1; drop when minute = 3;", 3, 228, 1);
        // The least and the greatest N, and one within of each: 4 * N - 9 - 5 and 20 - 9 - N in MINUTE 0.
        for (int n : new int[] {0, 1, 8, 9}) {
            dueRoast("fire " + n + " when 1; drop when minute;", 1, 186 + 4 * n, 1);
            dueRoast("drum " + n + " when 1; drop when minute;", 1, 211 - n, 1);
        }
    }

    private void drop() {
        sheet.says("drop: the ROAST ends here, ahead of the rest.");
        // Ahead of W's growing, and of the lines behind: none of these drops a second time or heats.
        dueRoast("drop when 1; fire 9 when 1;", 0, 200, 1);
        dueRoast("fire 9 when 1; drop when 1; fire 0 when 1;", 0, 200, 1);
        dueRoast("drop when minute = 2; drop when minute = 3;", 2, 212, 1);
        dueRoast("drop when minute = 3; drop when minute = 2;", 2, 212, 1);
        dueRoast("drop when 1; drop when 1;", 0, 200, 1);
    }

    /** A text that makes W grow in MINUTES 0 and 1 by told fires and drums, and drops in MINUTE 2. */
    private static String twoMinutes(int fire, int drum, int nextFire, int nextDrum) {
        return "fire " + fire + " when minute = 0; drum " + drum + " when minute = 0; fire " + nextFire
                + " when minute = 1; drum " + nextDrum + " when minute = 1; drop when minute = 2;";
    }

    private void growth() {
        sheet.says("Else W grows by 4 * fire - (W - 20) / 20 - drum, cut towards 0;");
        // From 200 by 4 * fire - 9 - drum to 219, 220, 221; then 199 / 20 is 9, 200 / 20 is 10, 201 / 20 is 10.
        dueRoast(twoMinutes(7, 0, 5, 5), 2, 219 + 20 - 9 - 5, 1);
        dueRoast(twoMinutes(8, 3, 5, 5), 2, 220 + 20 - 10 - 5, 1);
        dueRoast(twoMinutes(8, 2, 5, 5), 2, 221 + 20 - 10 - 5, 1);
        // To 199, 200, 201 (4 * fire - drum is 8, 9, 10), and on with a loss.
        dueRoast(twoMinutes(3, 4, 0, 9), 2, 199 - 8 - 9, 1);
        dueRoast(twoMinutes(3, 3, 0, 9), 2, 200 - 9 - 9, 1);
        dueRoast(twoMinutes(3, 2, 0, 9), 2, 201 - 9 - 9, 1);
        // Near 20: from 48 to 39, 40, 41 in MINUTE 11, then 19 / 20 is 0, 20 / 20 is 1, 21 / 20 is 1.
        for (int drum = 8; drum >= 6; drum--) {
            int warmth = 47 - drum;
            dueRoast(COLD + "drum " + drum + " when minute = 11; drum 0 when minute = 12; drop when minute = 13;",
                    13, warmth - (warmth < 40 ? 0 : 1), 1);
        }
        // By 0, too: from 200 by 4 * 3 - 9 - 3.
        dueRoast(twoMinutes(3, 3, 3, 3), 2, 200, 1);
    }

    private void leastAndMostWarmth() {
        sheet.says("not below 20, not above 400.");
        // From 29 in MINUTE 13 to 21 and 20; from 20 in MINUTE 14 to 20, and to 19 and 11, which are 20.
        dueRoast(COLD + "drop when minute = 13;", 13, 29, 1);
        dueRoast(COLD + "drum 8 when minute = 13; drop when minute = 14;", 14, 21, 1);
        dueRoast(COLD + "drop when minute = 14;", 14, 20, 1);
        dueRoast(COLD + "drum 0 when minute = 14; drop when minute = 15;", 15, 20, 1);
        dueRoast(COLD + "drum 1 when minute = 14; drop when minute = 15;", 15, 20, 1);
        dueRoast(COLD + "drop when minute = 15;", 15, 20, 1);
        dueRoast(COLD, 20, 20, 0);
        // From 384 in MINUTE 8 to 399, 400, and 401 and 402, which are 400.
        dueRoast(HOT + "drop when minute = 8;", 8, 384, 1);
        dueRoast(HOT + "drum 3 when minute = 8; drop when minute = 9;", 9, 399, 1);
        dueRoast(HOT + "drum 2 when minute = 8; drop when minute = 9;", 9, 400, 1);
        dueRoast(HOT + "drum 1 when minute = 8; drop when minute = 9;", 9, 400, 1);
        dueRoast(HOT + "drop when minute = 9;", 9, 400, 1);
        dueRoast(HOT, 20, 400, 0);
        // Held at the bound, W goes on from there: 20 + 36 - 0 - 0, 400 + 0 - 19 - 9.
        dueRoast(COLD + "fire 9 when minute = 16; drum 0 when minute = 16; drop when minute = 17;", 17, 56, 1);
        dueRoast(HOT + "fire 0 when minute = 10; drum 9 when minute = 10; drop when minute = 11;", 11, 372, 1);
    }

    private void end() {
        sheet.says("Behind MINUTE 19 it ends, too (20 MINUTES went by; by drop as many as W grew).");
        dueRoast("drop when minute = 0;", 0, 200, 1);
        dueRoast("drop when minute = 1;", 1, 206, 1);
        dueRoast("drop when minute = 18;", 18, 278, 1);
        dueRoast("drop when minute = 19;", 19, 281, 1);
        dueRoast("drop when minute = 20;", 20, 283, 0);
        dueRoast("drop when 19 < minute;", 20, 283, 0);
        dueRoast("", 20, 283, 0);
    }

    private void dueLoss(String text, int loss) {
        House x = roastBy(text);
        x.due(loss, x.roasted(2));
        x.due(1000 - loss, x.bag(0, 0));
    }

    private void loss() {
        sheet.says("LOSS in thousands: W / 4 + 3 * the MINUTES that went by, 600 at most.");
        dueLoss("drop when 1;", 200 / 4);
        // After one MINUTE at 203, 204, 205 (4 * fire - drum is 12, 13, 14): 50, 51, 51, and 3.
        String one = " drop when minute;";
        dueLoss("fire 3 when 1; drum 0 when 1;" + one, 50 + 3);
        dueLoss("fire 4 when 1; drum 3 when 1;" + one, 51 + 3);
        dueLoss("fire 4 when 1; drum 2 when 1;" + one, 51 + 3);
        dueLoss("fire 4 when 1; drum 0 when 1;" + one, 51 + 3);
        dueLoss("fire 5 when 1; drum 3 when 1;" + one, 52 + 3);
        dueLoss("drop when minute = 2;", 212 / 4 + 6);
        dueLoss("drop when minute = 19;", 281 / 4 + 57);
        dueLoss("", 283 / 4 + 60);
        dueLoss(COLD, 20 / 4 + 60);
        dueLoss(COLD + "drop when minute = 14;", 20 / 4 + 42);
        // 600 is never met: W is 400 at most, and MINUTES are 20.
        dueLoss(HOT, 400 / 4 + 60);
    }

    private void whatComesOut() {
        sheet.says("What comes out is grams * (1000 - LOSS) / 1000, cut: a BAG of that LOT alone, if it is 1 at least.");
        House x = sheet.house().lots(2).dropping();
        // 0.95 of each: 1 gives 0.95, which is none; 2 gives 1.9.
        x.due(NOTHING, x.roast(1, 1));
        x.due(0, x.count(1));
        int[] green = {2, 19, 20, 21, 39, 40, 41, 19999, 20000};
        int[] out = {1, 18, 19, 19, 37, 38, 38, 18999, 19000};
        for (int bag = 0; bag < green.length; bag++) {
            x.due(bag, x.roast(1, green[bag]));
            x.due(out[bag], x.bag(bag, 0));
            x.due(1, x.bag(bag, 3));
            x.due(out[bag], x.part(bag, 1));
            x.due(0, x.part(bag, 0));
        }
        x.due(NOTHING, x.roast(1, 1));
        x.due(green.length, x.count(1));
        // With the greatest LOSS, 160 of 1,000: 0.84, 1.68, and 25 * 0.84 is just 21.
        House y = sheet.house().lots(1);
        y.due(0, y.read(HOT));
        y.due(NOTHING, y.roast(0, 1));
        int[] greens = {2, 24, 25, 26};
        int[] outs = {1, 20, 21, 21};
        for (int bag = 0; bag < greens.length; bag++) {
            y.due(bag, y.roast(0, greens[bag]));
            y.due(outs[bag], y.bag(bag, 0));
        }
    }
}
