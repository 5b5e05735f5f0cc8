/** The sentences on the object itself, on LOTS, BAGS and DAYS. */
final class StockSentences {
    private static final int NONE = House.NONE;

    private final Sheet sheet;

    StockSentences(Sheet sheet) {
        this.sheet = sheet;
    }

    void all() {
        sheet.section("What it is");
        // The first sentence tells what the room is for, and names no boundary.
        sheet.says("Coffee rooms: green lots roasted minute by minute under a text of rules against a told curve, bags that"
                + " know how much of each lot is in them, also when blended again, cups judged blind and brought together by"
                + " what each judge says of told ones, blends of least price within spans of taste and stock, and what"
                + " houses have led back to lots.");
        callsOfOneObject();
        sheet.section("Terms");
        mostLots();
        gramsOfGreen();
        prices();
        tastes();
        mostBags();
        partsAddUp();
        dayWhenRoasted();
        dayOfBlend();
        days();
    }

    private void callsOfOneObject() {
        sheet.says("An object is used for at most 512 calls after it has been made; what later calls answer is free.");
        House signs = sheet.house();
        for (int i = 1; i <= 511; i++) {
            signs.due(i, signs.feed(0, 0, ' '));
        }
        signs.due(0, signs.text());
        signs.due(512, signs.callsSoFar());
        House texts = sheet.house();
        for (int i = 0; i < 256; i++) {
            texts.due(4, texts.feed(0, 0x64726F70, 0));
            texts.due(1 + 16 * 4, texts.text());
        }
        texts.due(512, texts.callsSoFar());
        House bags = sheet.house().lots(12).dropping();
        for (int i = 0; i < 59; i++) {
            bags.due(i, bags.roast(i % 12, 1000));
        }
        while (bags.callsSoFar() < 511) {
            int bag = bags.callsSoFar() % 59;
            bags.due(950, bags.part(bag, bag % 12));
        }
        bags.due(59, bags.roast(11, 1000));
        bags.due(512, bags.callsSoFar());
    }

    private void mostLots() {
        sheet.says("LOTS, 12 at most:");
        House x = sheet.house();
        for (int lot = 0; lot < 12; lot++) {
            x.due(lot, x.lot(7, 7, 7, 7, 7));
            x.due(lot + 1, x.count(0));
        }
        x.due(NONE, x.lot(7, 7, 7, 7, 7));
        x.due(12, x.count(0));
        x.due(7, x.part(NONE, 11));
        x.due(NONE, x.part(NONE, 12));
    }

    private void gramsOfGreen() {
        sheet.says("grams of green (1 .. 100000),");
        House x = sheet.house();
        int[] held = {1, 2, 99999, 100000};
        x.due(NONE, x.lot(0, 5, 5, 5, 5));
        x.due(NONE, x.lot(-1, 5, 5, 5, 5));
        x.due(NONE, x.lot(100001, 5, 5, 5, 5));
        for (int lot = 0; lot < held.length; lot++) {
            x.due(lot, x.lot(held[lot], 5, 5, 5, 5));
            x.due(held[lot], x.part(NONE, lot));
        }
        x.due(NONE, x.lot(100001, 5, 5, 5, 5));
        x.due(NONE, x.lot(0, 5, 5, 5, 5));
        x.due(4, x.count(0));
    }

    private void prices() {
        sheet.says("a price for 1,000 grams (1 .. 10000),");
        House x = sheet.house();
        int[] held = {1, 2, 9999, 10000};
        x.due(NONE, x.lot(5, 0, 5, 5, 5));
        x.due(NONE, x.lot(5, -1, 5, 5, 5));
        x.due(NONE, x.lot(5, 10001, 5, 5, 5));
        for (int lot = 0; lot < held.length; lot++) {
            x.due(lot, x.lot(10, held[lot], 5, 5, 5));
            x.due(10 * held[lot], x.best(1 << lot, 10));
        }
        x.due(4, x.count(0));
    }

    private void tastes() {
        sheet.says("three tastes (0 .. 100).");
        int[] held = {0, 1, 99, 100};
        for (int taste = 0; taste < 3; taste++) {
            House x = sheet.house();
            x.due(NONE, lotWithTaste(x, taste, -1));
            x.due(NONE, lotWithTaste(x, taste, 101));
            for (int lot = 0; lot < held.length; lot++) {
                x.due(lot, lotWithTaste(x, taste, held[lot]));
                x.due(true, x.span(taste, held[lot], held[lot]));
                x.due(50, x.best(1 << lot, 10));
            }
            x.due(4, x.count(0));
        }
    }

    private static int lotWithTaste(House x, int taste, int of) {
        int[] all = {50, 50, 50};
        all[taste] = of;
        return x.lot(10, 5, all[0], all[1], all[2]);
    }

    private void mostBags() {
        sheet.says("BAGS, 60 at most:");
        House roasts = sheet.house().lots(1).dropping();
        for (int bag = 0; bag < 60; bag++) {
            roasts.due(bag, roasts.roast(0, 100));
        }
        roasts.due(60, roasts.count(1));
        roasts.due(NONE, roasts.roast(0, 100));
        roasts.due(60, roasts.count(1));
        roasts.due(95, roasts.bag(59, 0));
        roasts.due(House.THROWN, roasts.bag(60, 0));
        House blends = sheet.house().lots(1).dropping();
        blends.due(0, blends.roast(0, 100));
        // Each blend takes all of the bag ahead: empty ones are BAGS still.
        for (int bag = 1; bag < 60; bag++) {
            blends.due(1, blends.take(bag - 1, 95));
            blends.due(bag, blends.blend());
        }
        blends.due(60, blends.count(1));
        blends.due(1, blends.take(59, 95));
        blends.due(NONE, blends.blend());
        blends.due(NONE, blends.roast(0, 100));
        blends.due(60, blends.count(1));
        blends.due(0, blends.bag(58, 0));
        blends.due(95, blends.bag(59, 0));
    }

    private void partsAddUp() {
        sheet.says("grams of roasted, parts by LOTS that add up to them,");
        House x = sheet.house().lots(3).dropping();
        for (int lot = 0; lot < 3; lot++) {
            x.due(lot, x.roast(lot, 100 + lot));
        }
        int[] most = {1, 2, 94};
        for (int bag = 0; bag < 3; bag++) {
            x.take(bag, most[bag]);
        }
        x.due(3, x.blend());
        int[] taken = {1, 50, 45};
        for (int i = 0; i < taken.length; i++) {
            x.due(1, x.take(3, taken[i]));
            x.due(4 + i, x.blend());
        }
        for (int bag = 0; bag < 7; bag++) {
            int sum = 0;
            for (int lot = 0; lot < 3; lot++) {
                sum += x.part(bag, lot);
            }
            x.due(sum, x.bag(bag, 0));
        }
        x.due(1, x.bag(3, 0));
        x.due(95 + 95 + 96, x.count(6));
    }

    private void dayWhenRoasted() {
        sheet.says("the DAY when roasted");
        House x = sheet.house().lots(1).dropping();
        x.due(0, x.roast(0, 100));
        x.due(1, x.days(1));
        x.due(1, x.roast(0, 100));
        for (int i = 0; i < 9; i++) {
            x.days(100);
        }
        x.due(998, x.days(97));
        x.due(2, x.roast(0, 100));
        x.due(999, x.days(1));
        x.due(3, x.roast(0, 100));
        int[] due = {0, 1, 998, 999};
        for (int bag = 0; bag < 4; bag++) {
            x.due(due[bag], x.bag(bag, 1));
        }
    }

    private void dayOfBlend() {
        sheet.says("(of a blend the least of those of its BAGS).");
        House x = sheet.house().lots(1).dropping();
        x.roast(0, 100);
        x.days(1);
        x.roast(0, 100);
        for (int i = 0; i < 9; i++) {
            x.days(100);
        }
        x.days(98);
        x.roast(0, 100);
        x.roast(0, 100);
        dueDay(x, 999, 2);
        dueDay(x, 999, 2, 3);
        dueDay(x, 1, 1, 2);
        dueDay(x, 1, 3, 1);
        dueDay(x, 0, 0, 1, 2);
        dueDay(x, 0, 2, 1, 0);
        // Bags 4 to 9 are the blends: of blends the least, too.
        dueDay(x, 999, 4, 5);
        dueDay(x, 1, 5, 6);
        dueDay(x, 0, 5, 7, 9);
    }

    private static void dueDay(House x, int day, int... bags) {
        for (int bag : bags) {
            x.take(bag, 1);
        }
        int blend = x.blend();
        x.due(day, x.bag(blend, 1));
    }

    private void days() {
        sheet.says("DAYS are 0 to 999; NOW is one, 0 at first.");
        House x = sheet.house();
        x.due(0, x.count(2));
        x.due(0, x.days(0));
        x.due(NONE, x.days(-1));
        for (int i = 1; i <= 9; i++) {
            x.due(100 * i, x.days(100));
        }
        x.due(NONE, x.days(100));
        x.due(998, x.days(98));
        x.due(NONE, x.days(2));
        x.due(998, x.count(2));
        x.due(999, x.days(1));
        x.due(999, x.days(0));
        x.due(NONE, x.days(1));
        x.due(999, x.count(2));
    }
}
