/** The sentences on the BEST BLEND and on HOUSES. */
final class BestSentences {
    private static final int NONE = House.NONE;

    private final Sheet sheet;

    BestSentences(Sheet sheet) {
        this.sheet = sheet;
    }

    void all() {
        sheet.section("Terms 5");
        lotsOfTheSet();
        gramsOfGreen();
        tastesWithinSpans();
        tenthsAddUp();
        stock();
        leastPrice();
        ties();
        houses();
        stale();
        constant();
    }

    private static void dueTenths(House x, int... tenths) {
        for (int lot = 0; lot < tenths.length; lot++) {
            x.due(tenths[lot], x.tenths(lot));
        }
    }

    private void lotsOfTheSet() {
        sheet.says("BEST BLEND of 6 LOTS at most (a set)");
        House x = sheet.house().lots(12);
        x.due(NONE, x.best(0, 100));
        for (int lots = 1; lots <= 12; lots++) {
            int set = (1 << lots) - 1;
            x.due(lots <= 6 ? 1000 : NONE, x.best(set, 100));
            x.due(lots <= 6 ? 1000 : NONE, x.best(set << 12 - lots, 100));
        }
        x.due(1000, x.best(0b100101101001, 100));
        x.due(NONE, x.best(0b100101101011, 100));
        for (int lot = 0; lot < 12; lot++) {
            x.due(1000, x.best(1 << lot, 100));
            x.due(10, x.tenths(lot));
        }
        x.due(NONE, x.best(1 << 12, 100));
        x.due(NONE, x.best(1 << 31, 100));
    }

    private void gramsOfGreen() {
        sheet.says("for grams of green (10 .. 100000, whole tens),");
        House x = sheet.house().lots(1);
        int[] held = {10, 20, 99990, 100000};
        int[] others = {-10, 0, 1, 5, 9, 11, 15, 19, 21, 99989, 99991, 99999, 100001, 100005, 100010};
        for (int grams : held) {
            x.due(1000, x.best(1, grams));
        }
        for (int grams : others) {
            x.due(NONE, x.best(1, grams));
        }
    }

    private void tastesWithinSpans() {
        sheet.says("with spans of the three tastes:");
        sheet.says("the sum of tenths * taste within 10 * from .. 10 * to for each taste;");
        for (int taste = 0; taste < 3; taste++) {
            House x = sheet.house();
            // The dear lot 0 alone has the sum 500, the cheap lot 1 alone 510.
            x.due(0, withTaste(x, 900, taste, 50));
            x.due(1, withTaste(x, 100, taste, 51));
            x.due(true, x.span(taste, 50, 50));
            x.due(9000, x.best(3, 100));
            dueTenths(x, 10, 0);
            x.due(true, x.span(taste, 50, 51));
            x.due(1000, x.best(3, 100));
            dueTenths(x, 0, 10);
            x.due(true, x.span(taste, 51, 51));
            x.due(1000, x.best(3, 100));
            x.due(true, x.span(taste, 52, 100));
            x.due(NONE, x.best(3, 100));
            x.due(true, x.span(taste, 0, 49));
            x.due(NONE, x.best(3, 100));
            sumAtTheEdges(taste);
        }
    }

    private static int withTaste(House x, int price, int taste, int of) {
        int[] all = {20, 20, 20};
        all[taste] = of;
        return x.lot(1000, price, all[0], all[1], all[2]);
    }

    /** Sums of 499, 500 and 501 against from 50 and to 50. */
    private void sumAtTheEdges(int taste) {
        int[] ofLots = {49, 50, 51};
        for (int i = 0; i < ofLots.length; i++) {
            House x = sheet.house();
            // 9 tenths at the most are left of the cheap lot 0, and one of lot 1 makes the sum.
            int[] all = {20, 20, 20};
            all[taste] = 50;
            x.lot(90, 100, all[0], all[1], all[2]);
            x.due(1, withTaste(x, 900, taste, ofLots[i]));
            x.due(true, x.span(taste, 50, 100));
            x.due(ofLots[i] < 50 ? NONE : 9 * 100 + 900, x.best(3, 100));
            x.due(true, x.span(taste, 0, 50));
            x.due(ofLots[i] > 50 ? NONE : 9 * 100 + 900, x.best(3, 100));
        }
    }

    private void tenthsAddUp() {
        sheet.says("tenths of each LOT that add up to 10,");
        House x = sheet.house();
        for (int lot = 0; lot < 6; lot++) {
            x.due(lot, x.lot(20, 100 + lot, 50, 50, 50));
        }
        // 2 tenths at the most of each: 4 lots have 8 at the most, 5 just 10, 6 more than needed.
        x.due(NONE, x.best(0b1111, 100));
        x.due(2 * (100 + 101 + 102 + 103 + 104), x.best(0b11111, 100));
        dueTenths(x, 2, 2, 2, 2, 2, 0);
        x.due(2 * (100 + 101 + 102 + 103 + 104), x.best(0b111111, 100));
        dueTenths(x, 2, 2, 2, 2, 2, 0);
        x.due(NONE, x.best(0b1, 100));
        // Of 20 grams one lot has all 10, of 30 grams 6: the next has 4.
        x.due(1000, x.best(0b11, 20));
        dueTenths(x, 10, 0, 0, 0, 0, 0);
        x.due(6 * 100 + 4 * 101, x.best(0b11, 30));
        dueTenths(x, 6, 4, 0, 0, 0, 0);
    }

    private void stock() {
        sheet.says("none of a LOT with less than tenths * grams / 10 left;");
        int[] left = {299, 300, 301, 399, 400, 999, 1000, 1001};
        int[] tenths = {2, 3, 3, 3, 4, 9, 10, 10};
        for (int i = 0; i < left.length; i++) {
            House x = sheet.house();
            x.due(0, x.lot(left[i], 100, 50, 50, 50));
            x.due(1, x.lot(100000, 200, 50, 50, 50));
            x.due(100 * tenths[i] + 200 * (10 - tenths[i]), x.best(3, 1000));
            dueTenths(x, tenths[i], 10 - tenths[i]);
        }
        // What is left, not what was there at first; and the blend takes nothing.
        House x = sheet.house().dropping();
        x.lot(500, 100, 50, 50, 50);
        x.lot(100000, 200, 50, 50, 50);
        x.due(5 * 100 + 5 * 200, x.best(3, 1000));
        x.due(5 * 100 + 5 * 200, x.best(3, 1000));
        x.due(500, x.part(NONE, 0));
        x.due(0, x.roast(0, 100));
        x.due(4 * 100 + 6 * 200, x.best(3, 1000));
        x.due(-2, x.roast(0, 1));
        x.due(3 * 100 + 7 * 200, x.best(3, 1000));
        x.due(1, x.roast(0, 399));
        x.due(2000, x.best(3, 1000));
        x.due(2000, x.best(3, 10));
        x.due(NONE, x.best(1, 10));
        // The most grams of all, of a lot that has just so many, and one less.
        House y = sheet.house();
        y.lot(100000, 100, 50, 50, 50);
        y.lot(99999, 100, 50, 50, 50);
        y.due(1000, y.best(1, 100000));
        y.due(NONE, y.best(2, 100000));
        y.due(1000, y.best(2, 99990));
    }

    private void leastPrice() {
        sheet.says("the least sum of tenths * price;");
        House x = sheet.house();
        // Half of 0 and 60 is 30, as is all of 30: 10 * 1000 and 10 * 1001 against 5 * 1 + 5 * 2000 = 10005.
        x.lot(1000, 1, 0, 50, 50);
        x.lot(1000, 2000, 60, 50, 50);
        x.lot(1000, 1000, 30, 50, 50);
        x.lot(1000, 1001, 30, 50, 50);
        x.due(true, x.span(0, 30, 30));
        x.due(5 * 1 + 5 * 2000, x.best(0b0011, 100));
        x.due(10000, x.best(0b0111, 100));
        dueTenths(x, 0, 0, 10, 0);
        x.due(5 * 1 + 5 * 2000, x.best(0b1011, 100));
        dueTenths(x, 5, 5, 0, 0);
        x.due(10010, x.best(0b1000, 100));
        x.due(true, x.span(0, 0, 100));
        x.due(10, x.best(0b1111, 100));
        // The least and the greatest sum of all.
        House y = sheet.house();
        y.lot(100, 1, 50, 50, 50);
        y.lot(100, 10000, 50, 50, 50);
        y.due(10, y.best(1, 100));
        y.due(100000, y.best(2, 100));
        y.due(10, y.best(3, 100));
        y.due(5 * 1 + 5 * 10000, y.best(3, 200));
    }

    private void ties() {
        sheet.says("of equal ones that with the most tenths of the least LOT, then of the next one, and so on.");
        House x = sheet.house();
        for (int lot = 0; lot < 6; lot++) {
            x.lot(30, 100, 10 * lot, 50, 50);
        }
        x.due(1000, x.best(0b111111, 100));
        dueTenths(x, 3, 3, 3, 1, 0, 0);
        x.due(1000, x.best(0b111110, 100));
        dueTenths(x, 0, 3, 3, 3, 1, 0);
        x.due(1000, x.best(0b111111, 10));
        dueTenths(x, 10, 0, 0, 0, 0, 0);
        // With taste a of 25 the sum is 250: the most of lot 0, then of lot 1, and the rest as it must be.
        x.due(true, x.span(0, 25, 25));
        x.due(1000, x.best(0b111111, 30));
        dueTenths(x, 5, 0, 0, 0, 0, 5);
        x.due(1000, x.best(0b111111, 100));
        dueTenths(x, 3, 2, 0, 0, 2, 3);
        // A less price goes ahead of the most tenths of the least lot.
        House y = sheet.house();
        y.lot(100, 101, 50, 50, 50);
        y.lot(100, 100, 50, 50, 50);
        y.lot(100, 100, 50, 50, 50);
        y.due(1000, y.best(0b111, 100));
        dueTenths(y, 0, 10, 0);
        // 100 and 300 cost as much as twice 200.
        House z = sheet.house();
        z.lot(1000, 200, 50, 50, 50);
        z.lot(1000, 100, 0, 50, 50);
        z.lot(1000, 300, 100, 50, 50);
        z.span(0, 50, 50);
        z.due(2000, z.best(0b111, 100));
        dueTenths(z, 10, 0, 0);
        House w = sheet.house();
        w.lot(1000, 100, 0, 50, 50);
        w.lot(1000, 200, 50, 50, 50);
        w.lot(1000, 300, 100, 50, 50);
        w.span(0, 50, 50);
        w.due(2000, w.best(0b111, 100));
        dueTenths(w, 5, 0, 5);
    }

    private void houses() {
        sheet.says("HOUSES 0 .. 9: a BAG goes to one (once).");
        House x = sheet.house().lots(1).dropping();
        for (int bag = 0; bag < 11; bag++) {
            x.due(bag, x.roast(0, 100));
        }
        for (int house = 0; house <= 9; house++) {
            x.due(false, x.send(house, -1));
            x.due(false, x.send(house, 10));
            x.due(NONE, x.bag(house, 2));
            x.due(true, x.send(house, house));
            x.due(house, x.bag(house, 2));
            x.due(false, x.send(house, house));
            x.due(false, x.send(house, 9 - house));
            x.due(house, x.bag(house, 2));
        }
        x.due(true, x.send(10, 9));
        x.due(95, x.led(0, 0));
        x.due(190, x.led(0, 9));
        x.due(NONE, x.led(0, -1));
        x.due(NONE, x.led(0, 10));
        x.due(NONE, x.stale(-1));
        x.due(NONE, x.stale(10));
        x.due(false, x.keeps(-1, 5));
        x.due(false, x.keeps(10, 5));
    }

    private void stale() {
        sheet.says("It is STALE there if it is more than so many DAYS old as told for the HOUSE (30 at first).");
        House x = sheet.house().lots(1).dropping();
        for (int house = 0; house <= 9; house++) {
            x.due(house, x.roast(0, 100));
            x.due(true, x.send(house, house));
        }
        int[] ages = {29, 30, 31};
        int now = 0;
        for (int age : ages) {
            x.days(age - now);
            now = age;
            for (int house = 0; house <= 9; house++) {
                x.due(age > 30 ? 1 : 0, x.stale(house));
            }
        }
        // Told for one HOUSE alone: 30, 31 and 32 against an age of 31.
        for (int days = 30; days <= 32; days++) {
            x.due(true, x.keeps(4, days));
            x.due(days < 31 ? 1 : 0, x.stale(4));
            x.due(1, x.stale(3));
            x.due(1, x.stale(5));
        }
        keptNoDayAndAll();
    }

    private void keptNoDayAndAll() {
        House x = sheet.house().lots(1).dropping();
        x.roast(0, 100);
        x.roast(0, 100);
        x.send(0, 0);
        x.due(true, x.keeps(0, 0));
        x.due(0, x.stale(0));
        x.days(1);
        x.due(1, x.stale(0));
        for (int i = 0; i < 9; i++) {
            x.days(100);
        }
        x.due(999, x.days(98));
        x.due(true, x.keeps(0, 998));
        x.due(1, x.stale(0));
        x.due(true, x.keeps(0, 999));
        x.due(0, x.stale(0));
        // A blend is as old as the oldest of its bags, 999 DAYS here.
        x.due(2, x.roast(0, 100));
        x.take(1, 1);
        x.take(2, 1);
        x.due(3, x.blend());
        x.due(true, x.send(3, 1));
        x.due(true, x.keeps(1, 998));
        x.due(1, x.stale(1));
        x.due(true, x.keeps(1, 999));
        x.due(0, x.stale(1));
        // One of this DAY is not STALE, even where none is kept.
        x.due(true, x.send(2, 2));
        x.due(true, x.keeps(2, 0));
        x.due(0, x.stale(2));
    }

    private void constant() {
        sheet.says("The constants: `NONE = -1`: None.");
        sheet.due("NONE", -1, RoastHouse.NONE);
    }
}
