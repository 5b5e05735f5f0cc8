/** The sentences on BLENDING. */
final class BlendSentences {
    private static final int NONE = House.NONE;

    private final Sheet sheet;

    BlendSentences(Sheet sheet) {
        this.sheet = sheet;
    }

    void all() {
        sheet.section("Terms 3");
        gramsTaken();
        whatIsLeftStays();
        sharesCut();
        greatestRests();
        neverMoreThanThePart();
        toldOnce();
    }

    private void gramsTaken() {
        sheet.says("BLENDING: so many grams (1 and more, not more than there are) of each of some BAGS come into a new one;");
        House x = sheet.house().lots(2).dropping();
        for (int bag = 0; bag < 4; bag++) {
            x.due(bag, x.roast(bag % 2, 100));
        }
        x.due(NONE, x.take(0, -1));
        x.due(NONE, x.take(0, 0));
        x.due(NONE, x.take(0, 96));
        x.due(1, x.take(0, 1));
        x.due(2, x.take(1, 2));
        x.due(3, x.take(2, 94));
        x.due(4, x.take(3, 95));
        x.due(4, x.blend());
        x.due(1 + 2 + 94 + 95, x.bag(4, 0));
        x.due(1 + 94, x.part(4, 0));
        x.due(2 + 95, x.part(4, 1));
        // Of what is left: 1 is the most of bag 2, and none of bag 3.
        x.due(NONE, x.take(2, 2));
        x.due(1, x.take(2, 1));
        x.due(NONE, x.take(3, 1));
        x.due(5, x.blend());
        x.due(1, x.bag(5, 0));
        // All 59 bags at once, and all of each.
        House y = sheet.house().lots(12).dropping();
        for (int bag = 0; bag < 59; bag++) {
            y.due(bag, y.roast(bag / 5, 20000));
            y.due(bag + 1, y.take(bag, 19000));
        }
        y.due(59, y.blend());
        y.due(59 * 19000, y.bag(59, 0));
        y.due(12, y.bag(59, 3));
        y.due(95000, y.part(59, 0));
        y.due(4 * 19000, y.part(59, 11));
    }

    private void whatIsLeftStays() {
        sheet.says("what is left stays.");
        House x = sheet.house().lots(2).dropping();
        x.roast(0, 100);
        x.roast(1, 100);
        x.take(0, 1);
        x.take(1, 94);
        x.due(2, x.blend());
        x.due(94, x.bag(0, 0));
        x.due(94, x.part(0, 0));
        x.due(1, x.bag(1, 0));
        x.due(1, x.part(1, 1));
        x.due(1, x.bag(1, 3));
        x.take(1, 1);
        x.due(3, x.blend());
        // An empty one is a BAG still, without a LOT.
        x.due(0, x.bag(1, 0));
        x.due(0, x.part(1, 1));
        x.due(0, x.bag(1, 3));
        x.due(0, x.bag(1, 1));
        x.due(NONE, x.bag(1, 2));
        x.due(190, x.count(6));
    }

    /** A bag, number 12, with so many grams of lots 0, 1 ..; bags 0 .. 11 are of one lot each. */
    private House withParts(int... parts) {
        House x = sheet.house().lots(12).dropping();
        for (int lot = 0; lot < 12; lot++) {
            x.roast(lot, 20000);
        }
        for (int lot = 0; lot < parts.length; lot++) {
            if (parts[lot] > 0) {
                x.take(lot, parts[lot]);
            }
        }
        x.due(12, x.blend());
        return x;
    }

    private void dueShares(int[] parts, int n, int... shares) {
        House x = withParts(parts);
        x.due(1, x.take(12, n));
        x.due(13, x.blend());
        x.due(n, x.bag(13, 0));
        int lots = 0;
        for (int lot = 0; lot < parts.length; lot++) {
            x.due(shares[lot], x.part(13, lot));
            x.due(parts[lot] - shares[lot], x.part(12, lot));
            lots += shares[lot] > 0 ? 1 : 0;
        }
        x.due(lots, x.bag(13, 3));
    }

    private void sharesCut() {
        sheet.says("Of a BAG of g grams with parts p, n grams taken: of each LOT n * p / g, cut;");
        // Without a rest: 10 of 30 with 3, 9, 18 are 1, 3, 6.
        dueShares(new int[] {3, 9, 18}, 10, 1, 3, 6);
        dueShares(new int[] {50, 50}, 2, 1, 1);
        dueShares(new int[] {7}, 1, 1);
        dueShares(new int[] {7}, 6, 6);
        dueShares(new int[] {7}, 7, 7);
        // 8,999 of 15,000 with 9,000 and 6,000 are 5399.4 and 3599.6.
        dueShares(new int[] {9000, 6000}, 8999, 5399, 3600);
        nearlyAllOfTheGreatestBag();
    }

    /** Here n * p is far above 2 to the 31st. */
    private void nearlyAllOfTheGreatestBag() {
        House x = sheet.house().lots(12).dropping();
        for (int bag = 0; bag < 58; bag++) {
            x.roast(bag / 5, 20000);
            x.take(bag, 19000);
        }
        x.due(58, x.blend());
        x.due(1102000, x.bag(58, 0));
        x.due(1, x.take(58, 1101999));
        x.due(59, x.blend());
        // All but one: of each lot p - 1 and the rest g - p. 11 are left: lot 11 has the least p, 57,000, so the
        // greatest rest; of the others, equal with 95,000, lots 0 to 9.
        for (int lot = 0; lot < 10; lot++) {
            x.due(95000, x.part(59, lot));
        }
        x.due(94999, x.part(59, 10));
        x.due(57000, x.part(59, 11));
        x.due(1, x.part(58, 10));
        x.due(1, x.bag(58, 0));
    }

    private void greatestRests() {
        sheet.says("what is left one by one to those with the greatest rests n * p modulo g, of equal ones the least LOT");
        // Three equal rests: none, the least one, the least two, all.
        dueShares(new int[] {1, 1, 1}, 1, 1, 0, 0);
        dueShares(new int[] {1, 1, 1}, 2, 1, 1, 0);
        dueShares(new int[] {1, 1, 1}, 3, 1, 1, 1);
        // Rests 2 and 1, and 1 and 2.
        dueShares(new int[] {2, 1}, 1, 1, 0);
        dueShares(new int[] {2, 1}, 2, 1, 1);
        dueShares(new int[] {1, 2}, 1, 0, 1);
        dueShares(new int[] {1, 2}, 2, 1, 1);
        // Of 100 with 1 and 99: rests 49 and 51, 50 and 50, 51 and 49.
        dueShares(new int[] {1, 99}, 49, 0, 49);
        dueShares(new int[] {1, 99}, 50, 1, 49);
        dueShares(new int[] {1, 99}, 51, 1, 50);
        dueShares(new int[] {99, 1}, 49, 49, 0);
        dueShares(new int[] {99, 1}, 50, 50, 0);
        dueShares(new int[] {99, 1}, 51, 50, 1);
        // Of 10 with 2, 5, 3, 4 taken: rests 8, 0, 2.
        dueShares(new int[] {2, 5, 3}, 4, 1, 2, 1);
        // Of 9 with 1, 1, 7, 5 taken: rests 5, 5, 8, and two left: the last lot, then the first.
        dueShares(new int[] {1, 1, 7}, 5, 1, 0, 4);
        // Of 8 with 2, 2, 4, 5 taken: rests 2, 2, 4, and one left.
        dueShares(new int[] {2, 2, 4}, 5, 1, 1, 3);
        // 5 of 7 with 2, 2, 3: rests 3, 3, 1.
        dueShares(new int[] {2, 2, 3}, 5, 2, 1, 2);
        // 3 of 7 with 2, 2, 3: rests 6, 6, 2.
        dueShares(new int[] {2, 2, 3}, 3, 1, 1, 1);
        // 12 lots with 1 each: 11 left of 12.
        int[] ones = {1, 1, 1, 1, 1, 1, 1, 1, 1, 1, 1, 1};
        dueShares(ones, 1, 1, 0, 0, 0, 0, 0, 0, 0, 0, 0, 0, 0);
        dueShares(ones, 11, 1, 1, 1, 1, 1, 1, 1, 1, 1, 1, 1, 0);
        dueShares(ones, 12, ones);
        // Lots that are not in it have no rest.
        dueShares(new int[] {0, 1, 0, 1, 1}, 2, 0, 1, 0, 1, 0);
    }

    private void neverMoreThanThePart() {
        sheet.says("(never more than p).");
        dueShares(new int[] {1, 5}, 4, 1, 3);
        dueShares(new int[] {1, 5}, 5, 1, 4);
        dueShares(new int[] {1, 5}, 6, 1, 5);
        dueShares(new int[] {1, 9999}, 9999, 1, 9998);
        dueShares(new int[] {1, 9999}, 10000, 1, 9999);
        dueShares(new int[] {1, 1, 1, 97}, 99, 1, 1, 1, 96);
        dueShares(new int[] {1, 1, 1, 97}, 98, 1, 1, 1, 95);
    }

    private void toldOnce() {
        sheet.says("The same BAG is told once only.");
        House x = sheet.house().lots(1).dropping();
        x.roast(0, 100);
        x.roast(0, 100);
        x.due(1, x.take(0, 10));
        x.due(NONE, x.take(0, 10));
        x.due(NONE, x.take(0, 1));
        x.due(2, x.take(1, 10));
        x.due(NONE, x.take(0, 85));
        x.due(2, x.count(5));
        x.due(2, x.blend());
        x.due(20, x.bag(2, 0));
        // Behind blend() it may be told anew, once.
        x.due(1, x.take(0, 85));
        x.due(NONE, x.take(0, 1));
        x.due(3, x.blend());
        x.due(85, x.bag(3, 0));
    }
}
