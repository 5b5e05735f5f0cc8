/** The sentences of promises 13 to 25. */
final class LastPromises {
    private static final int NONE = House.NONE;
    private static final int LOW = House.LOW;
    private static final int HIGH = House.HIGH;
    private static final int NO_WORTH = -1000000;
    private static final int NO_ORDER = -2;

    private final Sheet sheet;

    LastPromises(Sheet sheet) {
        this.sheet = sheet;
    }

    void all() {
        mark();
        told();
        order();
        worth();
        span();
        best();
        tenths();
        send();
        keeps();
        stale();
        found();
        led();
        count();
    }

    private void mark() {
        sheet.section("Promise 13: mark");
        sheet.says("A JUDGE's mark: true;");
        House x = sheet.house();
        x.told(0, 50);
        for (int judge = 0; judge <= 4; judge++) {
            x.due(true, x.mark(judge, 0, 50));
            x.due(true, x.mark(judge, 19, 20 * judge));
            // The mean of 0, 20, 40 ..
            x.due(10000 * judge, x.worth(19));
        }
        sheet.says("false: no such JUDGE,");
        for (int judge : new int[] {LOW, -1, 5, HIGH}) {
            x.due(false, x.mark(judge, 19, 100));
        }
        x.due(40000, x.worth(19));
        sheet.says("SAMPLE,");
        for (int sample : new int[] {LOW, -1, 20, HIGH}) {
            x.due(false, x.mark(0, sample, 100));
        }
        x.due(40000, x.worth(19));
        sheet.says("mark.");
        for (int mark : new int[] {LOW, -1, 101, HIGH}) {
            x.due(false, x.mark(4, 19, mark));
            x.due(false, x.mark(0, 0, mark));
        }
        x.due(40000, x.worth(19));
        x.due(true, x.mark(4, 19, 100));
        x.due(44000, x.worth(19));
        x.due(true, x.mark(4, 19, 0));
        x.due(24000, x.worth(19));
    }

    private void told() {
        sheet.section("Promise 14: told");
        sheet.says("A SAMPLE is TOLD to be worth so much (NONE: no more): true;");
        House x = sheet.house();
        x.mark(0, 0, 50);
        x.mark(0, 19, 50);
        x.due(true, x.told(0, NONE));
        x.due(NO_WORTH, x.worth(0));
        x.due(true, x.told(0, 0));
        x.due(0, x.worth(0));
        x.due(true, x.told(19, 100));
        x.due(50000, x.worth(0));
        x.due(true, x.told(0, NONE));
        x.due(100000, x.worth(0));
        x.due(true, x.told(19, NONE));
        x.due(NO_WORTH, x.worth(0));
        x.due(true, x.told(19, NONE));
        x.due(true, x.told(19, 70));
        x.due(70000, x.worth(0));
        sheet.says("false: no such one,");
        for (int sample : new int[] {LOW, -1, 20, HIGH}) {
            x.due(false, x.told(sample, 50));
            x.due(false, x.told(sample, NONE));
        }
        x.due(70000, x.worth(19));
        sheet.says("worth.");
        for (int worth : new int[] {LOW, -2, 101, HIGH}) {
            x.due(false, x.told(19, worth));
        }
        x.due(70000, x.worth(19));
    }

    private void order() {
        sheet.section("Promise 15: order");
        sheet.says("ORDER: 1 if the first is worth more, -1 less, 0 as much;");
        House x = sheet.house();
        x.told(0, 50);
        x.mark(0, 0, 50);
        x.mark(0, 1, 49);
        x.mark(0, 19, 51);
        x.due(1, x.order(19, 0));
        x.due(-1, x.order(0, 19));
        x.due(1, x.order(0, 1));
        x.due(-1, x.order(1, 0));
        x.due(-1, x.order(1, 19));
        x.due(0, x.order(19, 19));
        x.mark(0, 2, 49);
        x.due(0, x.order(1, 2));
        // Below 0, too: worths of -1 and -2.
        x.mark(0, 0, 100);
        x.mark(0, 3, 49);
        x.mark(0, 4, 48);
        x.due(1, x.order(3, 4));
        x.due(-1, x.order(4, 3));
        sheet.says("-2: none such,");
        for (int sample : new int[] {LOW, -1, 20, HIGH}) {
            x.due(NO_ORDER, x.order(sample, 0));
            x.due(NO_ORDER, x.order(0, sample));
            x.due(NO_ORDER, x.order(sample, sample));
        }
        sheet.says("one has no WORTH.");
        x.due(NO_ORDER, x.order(0, 5));
        x.due(NO_ORDER, x.order(5, 0));
        x.due(NO_ORDER, x.order(5, 5));
        // A mark by a JUDGE with n of 0 gives no WORTH.
        x.mark(1, 5, 50);
        x.due(NO_ORDER, x.order(0, 5));
        x.mark(1, 0, 50);
        x.due(1, x.order(5, 1));
        x.told(0, NONE);
        x.due(NO_ORDER, x.order(5, 1));
    }

    private void worth() {
        sheet.section("Promise 16: worth");
        sheet.says("A SAMPLE's WORTH times 1000, cut downwards;");
        House x = sheet.house();
        for (int sample = 0; sample < 3; sample++) {
            x.told(sample, 50);
            x.mark(0, sample, 50);
        }
        int[] marks = {1, 0};
        for (int mark : marks) {
            x.mark(0, 10, mark);
            x.mark(0, 0, 49);
            x.due(1000 * mark + 333, x.worth(10));
            x.mark(0, 0, 50);
            x.due(1000 * mark, x.worth(10));
            x.mark(0, 0, 51);
            x.due(1000 * mark - 334, x.worth(10));
            x.mark(0, 0, 52);
            x.due(1000 * mark - 667, x.worth(10));
            x.mark(0, 0, 53);
            x.due(1000 * mark - 1000, x.worth(10));
            x.mark(0, 0, 54);
            x.due(1000 * mark - 1334, x.worth(10));
        }
        sheet.says("-1000000: none such,");
        for (int sample : new int[] {LOW, -1, 20, HIGH}) {
            x.due(NO_WORTH, x.worth(sample));
        }
        sheet.says("no WORTH.");
        x.due(NO_WORTH, x.worth(11));
        // A TOLD one without a mark, and a mark by a JUDGE with n of 0.
        x.told(11, 50);
        x.due(NO_WORTH, x.worth(11));
        x.mark(1, 12, 50);
        x.due(NO_WORTH, x.worth(12));
        x.mark(1, 11, 50);
        x.due(50000, x.worth(12));
        x.due(50000, x.worth(11));
    }

    private void span() {
        sheet.section("Promise 17: span");
        sheet.says("0 .. 100 at first.");
        for (int of : new int[] {0, 1, 99, 100}) {
            House x = sheet.house();
            x.lot(100, 5, of, of, of);
            x.due(50, x.best(1, 100));
        }
        sheet.says("The span of a taste (0 .. 2) for best(): true;");
        for (int taste = 0; taste <= 2; taste++) {
            House x = sheet.house();
            x.lot(100, 5, 50, 50, 50);
            x.due(true, x.span(taste, 0, 49));
            x.due(NONE, x.best(1, 100));
            x.due(true, x.span(taste, 50, 50));
            x.due(50, x.best(1, 100));
            x.due(true, x.span(taste, 51, 100));
            x.due(NONE, x.best(1, 100));
            x.due(true, x.span(taste, 0, 0));
            x.due(NONE, x.best(1, 100));
            x.due(true, x.span(taste, 100, 100));
            x.due(NONE, x.best(1, 100));
            x.due(true, x.span(taste, 0, 100));
            x.due(50, x.best(1, 100));
        }
        spansRefused();
    }

    private void spansRefused() {
        sheet.says("false: none such,");
        House x = sheet.house();
        x.lot(100, 5, 50, 50, 50);
        for (int taste : new int[] {LOW, -1, 3, HIGH}) {
            x.due(false, x.span(taste, 0, 49));
            x.due(50, x.best(1, 100));
        }
        sheet.says("other numbers (0 .. 100, from above to).");
        for (int taste = 0; taste <= 2; taste++) {
            int[][] others = {{-1, 49}, {LOW, 49}, {51, 101}, {51, HIGH}, {101, 101}, {-1, -1}, {51, 50}, {100, 0}, {1, 0},
                {100, 99}, {HIGH, LOW}, {101, 49}, {51, -1}};
            for (int[] other : others) {
                x.due(false, x.span(taste, other[0], other[1]));
            }
            x.due(50, x.best(1, 100));
            // From just to, and one below it.
            x.due(true, x.span(taste, 50, 50));
            x.due(true, x.span(taste, 49, 50));
            x.due(50, x.best(1, 100));
        }
    }

    private void best() {
        sheet.section("Promise 18: best");
        sheet.says("The BEST BLEND of a set of LOTS: the sum of tenths * price;");
        House x = sheet.house();
        for (int lot = 0; lot < 7; lot++) {
            x.lot(30, 10 + lot, 10 * lot, 50, 50);
        }
        x.due(3 * 10 + 3 * 11 + 3 * 12 + 13, x.best(0b111111, 100));
        x.due(3 * 11 + 3 * 12 + 3 * 13 + 14, x.best(0b1111110, 100));
        x.due(160, x.best(0b1000000, 30));
        sheet.says("NONE: none,");
        x.due(NONE, x.best(0b111, 100));
        x.due(3 * 10 + 3 * 11 + 3 * 12 + 13, x.best(0b1111, 100));
        x.span(0, 61, 100);
        x.due(NONE, x.best(0b1111110, 10));
        x.span(0, 60, 100);
        x.due(160, x.best(0b1111110, 10));
        x.span(0, 0, 100);
        sheet.says("other LOTS,");
        x.due(NONE, x.best(1 << 7, 10));
        x.due(NONE, x.best(1 << 7 | 1, 10));
        x.due(NONE, x.best(1 << 11, 10));
        x.due(NONE, x.best(1 << 12, 10));
        x.due(NONE, x.best(1 << 30, 10));
        x.due(NONE, x.best(1 << 30 | 1, 10));
        x.due(NONE, x.best(LOW, 10));
        x.due(NONE, x.best(LOW | 1, 10));
        x.due(NONE, x.best(-1, 10));
        x.due(NONE, x.best(HIGH, 10));
        x.due(160, x.best(1 << 6, 10));
        sheet.says("no LOT or more than 6,");
        x.due(NONE, x.best(0, 10));
        x.due(100, x.best(0b1, 10));
        x.due(100, x.best(0b111111, 10));
        x.due(NONE, x.best(0b1111111, 10));
        sheet.says("other grams.");
        for (int grams : new int[] {LOW, -10, 0, 1, 9, 11, 25, 100001, 100010, HIGH}) {
            x.due(NONE, x.best(0b1, grams));
        }
        x.due(100, x.best(0b1, 10));
        x.due(100, x.best(0b1, 30));
    }

    private static void dueTenths(House x, int... tenths) {
        for (int lot = 0; lot < tenths.length; lot++) {
            x.due(tenths[lot], x.tenths(lot));
        }
    }

    private void tenths() {
        sheet.section("Promise 19: tenths");
        sheet.says("none found yet.");
        House x = sheet.house();
        x.lot(70, 10, 50, 50, 50);
        x.lot(100, 20, 50, 50, 50);
        x.due(NONE, x.tenths(0));
        x.due(NONE, x.best(0b01, 100));
        x.due(NONE, x.best(0b11, 5));
        x.due(NONE, x.tenths(0));
        x.due(NONE, x.tenths(1));
        sheet.says("The tenths of a LOT in the latest BEST BLEND that was found (0 of others);");
        x.due(7 * 10 + 3 * 20, x.best(0b11, 100));
        dueTenths(x, 7, 3, NONE);
        // What is not found leaves the latest that was.
        x.due(NONE, x.best(0b01, 100));
        x.due(NONE, x.best(0b100, 100));
        x.due(NONE, x.best(0b11, 101));
        dueTenths(x, 7, 3, NONE);
        // A LOT that came later is one of the others.
        x.lot(100, 30, 50, 50, 50);
        dueTenths(x, 7, 3, 0, NONE);
        x.due(200, x.best(0b110, 100));
        dueTenths(x, 0, 10, 0, NONE);
        x.due(100, x.best(0b001, 70));
        dueTenths(x, 10, 0, 0, NONE);
        sheet.says("NONE: no such LOT,");
        for (int lot : new int[] {LOW, -1, 3, 12, HIGH}) {
            x.due(NONE, x.tenths(lot));
        }
        x.lots(9);
        x.due(0, x.tenths(11));
        x.due(NONE, x.tenths(12));
    }

    private void send() {
        sheet.section("Promise 20: send");
        sheet.says("A BAG goes to a HOUSE: true;");
        House x = sheet.house().lots(1).dropping();
        for (int bag = 0; bag < 6; bag++) {
            x.due(bag, x.roast(0, 100));
        }
        x.due(true, x.send(0, 0));
        x.due(0, x.bag(0, 2));
        x.due(true, x.send(5, 9));
        x.due(9, x.bag(5, 2));
        sheet.says("false: none such,");
        for (int bag : new int[] {LOW, -1, 6, 60, HIGH}) {
            x.due(false, x.send(bag, 1));
        }
        for (int house : new int[] {LOW, -1, 10, HIGH}) {
            x.due(false, x.send(1, house));
            x.due(NONE, x.bag(1, 2));
        }
        sheet.says("it went,");
        x.due(false, x.send(0, 0));
        x.due(false, x.send(0, 1));
        x.due(0, x.bag(0, 2));
        sheet.says("it is told for blend(),");
        x.due(1, x.take(1, 95));
        x.due(2, x.take(2, 1));
        x.due(false, x.send(1, 1));
        x.due(false, x.send(2, 1));
        x.due(true, x.send(3, 1));
        x.due(6, x.blend());
        sheet.says("it is empty.");
        x.due(0, x.bag(1, 0));
        x.due(false, x.send(1, 1));
        x.due(NONE, x.bag(1, 2));
        x.due(true, x.send(2, 1));
        // With a single gram it goes.
        x.due(1, x.take(4, 94));
        x.due(7, x.blend());
        x.due(1, x.bag(4, 0));
        x.due(true, x.send(4, 1));
        x.due(true, x.send(7, 1));
    }

    private void keeps() {
        sheet.section("Promise 21: keeps");
        sheet.says("How many DAYS a HOUSE keeps BAGS (0 .. 999): true;");
        House x = sheet.house().lots(1).dropping();
        x.roast(0, 100);
        x.roast(0, 100);
        x.send(0, 0);
        x.send(1, 9);
        x.days(1);
        for (int house : new int[] {0, 9}) {
            x.due(0, x.stale(house));
            x.due(true, x.keeps(house, 0));
            x.due(1, x.stale(house));
            x.due(true, x.keeps(house, 1));
            x.due(0, x.stale(house));
            x.due(true, x.keeps(house, 998));
            x.due(true, x.keeps(house, 999));
            x.due(0, x.stale(house));
            x.due(true, x.keeps(house, 0));
        }
        sheet.says("false: none such.");
        for (int house : new int[] {LOW, -1, 10, HIGH}) {
            x.due(false, x.keeps(house, 100));
        }
        for (int days : new int[] {LOW, -1, 1000, HIGH}) {
            x.due(false, x.keeps(0, days));
            x.due(false, x.keeps(9, days));
        }
        x.due(1, x.stale(0));
        x.due(1, x.stale(9));
    }

    private void stale() {
        sheet.section("Promise 22: stale");
        sheet.says("How many BAGS are STALE in a HOUSE;");
        House x = sheet.house().lots(1).dropping();
        for (int bag = 0; bag < 60; bag++) {
            x.due(bag, x.roast(0, 100));
            x.days(1);
        }
        x.due(0, x.stale(0));
        // Bags 0 .. 59 are 60 .. 1 DAYS old; those with an even number go to house 0, the others to house 9.
        for (int bag = 0; bag < 60; bag++) {
            x.send(bag, bag % 2 == 0 ? 0 : 9);
        }
        x.due(15, x.stale(0));
        x.due(15, x.stale(9));
        x.due(0, x.stale(1));
        x.keeps(0, 59);
        x.due(1, x.stale(0));
        x.keeps(0, 60);
        x.due(0, x.stale(0));
        x.keeps(9, 58);
        x.due(1, x.stale(9));
        x.keeps(9, 59);
        x.due(0, x.stale(9));
        x.keeps(0, 1);
        x.due(30, x.stale(0));
        x.keeps(9, 0);
        x.due(30, x.stale(9));
        x.keeps(9, 1);
        x.due(29, x.stale(9));
        sheet.says("NONE: none such.");
        for (int house : new int[] {LOW, -1, 10, HIGH}) {
            x.due(NONE, x.stale(house));
        }
    }

    private void found() {
        sheet.section("Promise 23: found");
        sheet.says("The i-th BAG, by numbers, in which a LOT is;");
        House x = sheet.house().lots(3).dropping();
        for (int bag = 0; bag < 58; bag++) {
            x.due(bag, x.roast(bag % 2, 100));
        }
        x.due(0, x.found(0, 0));
        x.due(1, x.found(1, 0));
        x.due(2, x.found(0, 1));
        x.due(56, x.found(0, 28));
        x.due(57, x.found(1, 28));
        // One gram of lot 1 comes into a blend; bag 0 has no lot any more.
        x.take(0, 95);
        x.take(1, 1);
        x.due(58, x.blend());
        x.due(2, x.found(0, 0));
        x.due(1, x.found(1, 0));
        x.due(58, x.found(0, 28));
        x.due(58, x.found(1, 29));
        x.due(true, x.send(58, 3));
        x.due(58, x.found(1, 29));
        sheet.says("NONE.");
        x.due(NONE, x.found(0, 29));
        x.due(NONE, x.found(1, 30));
        x.due(NONE, x.found(2, 0));
        for (int i : new int[] {LOW, -1, 60, HIGH}) {
            x.due(NONE, x.found(1, i));
        }
        for (int lot : new int[] {LOW, -1, 3, 12, HIGH}) {
            x.due(NONE, x.found(lot, 0));
        }
    }

    private void led() {
        sheet.section("Promise 24: led");
        sheet.says("Grams of a LOT in a HOUSE;");
        House x = sheet.house().lots(12).dropping();
        for (int bag = 0; bag < 4; bag++) {
            x.due(bag, x.roast(bag % 2 == 0 ? 0 : 11, 100));
        }
        x.due(0, x.led(0, 0));
        x.take(0, 1);
        x.take(1, 2);
        x.due(4, x.blend());
        x.due(0, x.led(0, 0));
        x.due(true, x.send(4, 0));
        x.due(1, x.led(0, 0));
        x.due(2, x.led(11, 0));
        x.due(0, x.led(5, 0));
        x.due(true, x.send(0, 0));
        x.due(95, x.led(0, 0));
        x.due(2, x.led(11, 0));
        x.due(true, x.send(3, 9));
        x.due(95, x.led(11, 9));
        x.due(0, x.led(0, 9));
        x.due(0, x.led(0, 1));
        sheet.says("NONE: none such.");
        for (int lot : new int[] {LOW, -1, 12, HIGH}) {
            x.due(NONE, x.led(lot, 0));
        }
        for (int house : new int[] {LOW, -1, 10, HIGH}) {
            x.due(NONE, x.led(0, house));
        }
        // The most there can be: 60 bags of 5 lots' 100,000 grams in one house.
        House y = sheet.house().lots(12).dropping();
        for (int bag = 0; bag < 60; bag++) {
            y.roast(bag / 5, 20000);
            y.send(bag, 9);
        }
        y.due(95000, y.led(0, 9));
        y.due(95000, y.led(11, 9));
        y.due(60 * 19000, y.count(6));
        House z = sheet.house();
        z.due(NONE, z.led(0, 0));
    }

    private void count() {
        sheet.section("Promise 25: count");
        sheet.says("What 0: LOTS, 1: BAGS, 2: NOW, 3: lines of the text, 4: signs on the TAPE, 5: BAGS told for blend(),"
                + " 6: grams in all BAGS.");
        House x = sheet.house();
        for (int what = 0; what <= 6; what++) {
            x.due(0, x.count(what));
        }
        x.lots(12);
        x.read("drop when 1;".repeat(16));
        for (int bag = 0; bag < 60; bag++) {
            x.roast(bag / 5, 20000);
        }
        for (int bag = 0; bag < 60; bag++) {
            x.take(bag, 1 + bag);
        }
        for (int i = 0; i < 9; i++) {
            x.days(100);
        }
        x.days(99);
        x.tape(" ".repeat(600));
        int[] most = {12, 60, 999, 16, 600, 60, 60 * 19000};
        for (int what = 0; what <= 6; what++) {
            x.due(most[what], x.count(what));
        }
        // Bags in houses count, and what was blended counts once.
        House y = sheet.house().lots(1).dropping();
        y.roast(0, 100);
        y.roast(0, 100);
        y.send(0, 0);
        y.take(1, 50);
        y.due(1, y.count(5));
        y.blend();
        y.due(190, y.count(6));
        y.due(3, y.count(1));
        y.due(0, y.count(5));
        sheet.says("NONE for another what.");
        for (int what : new int[] {LOW, -1, 7, HIGH}) {
            x.due(NONE, x.count(what));
        }
    }
}
