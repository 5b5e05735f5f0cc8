/** The sentences of promises 1 to 12. */
final class FirstPromises {
    private static final int NONE = House.NONE;
    private static final int LOW = House.LOW;
    private static final int HIGH = House.HIGH;
    private static final int THROWN = House.THROWN;
    private static final long BLANKS = 0x2020202020202020L;

    private final Sheet sheet;

    FirstPromises(Sheet sheet) {
        this.sheet = sheet;
    }

    void all() {
        newObject();
        lot();
        days();
        curve();
        feed();
        feedBeyond();
        text();
        roast();
        roasted();
        greatestWay();
        take();
        blend();
        bag();
        part();
    }

    private void newObject() {
        sheet.section("Promise 1: A new object");
        sheet.says("No LOT; NOW is 0.");
        House x = sheet.house();
        x.due(0, x.count(0));
        x.due(0, x.count(2));
        x.due(NONE, x.part(NONE, 0));
        x.due(NONE, x.roast(0, 1));
        x.due(NONE, x.best(1, 10));
        x.due(NONE, x.tenths(0));
        x.due(NONE, x.found(0, 0));
        x.due(NONE, x.led(0, 0));
        x.due(THROWN, x.bag(0, 0));
        for (int what = 0; what <= 6; what++) {
            x.due(0, x.count(what));
        }
        x.due(0, x.lot(1, 1, 0, 0, 0));
        // An object of its own: what another one has is not here.
        x.due(0, sheet.house().count(0));
    }

    private void lot() {
        sheet.section("Promise 2: lot");
        sheet.says("A LOT more: its number;");
        House x = sheet.house();
        for (int lot = 0; lot < 12; lot++) {
            x.due(lot, x.lot(1 + lot, 1, 0, 0, 0));
        }
        for (int lot = 0; lot < 12; lot++) {
            x.due(1 + lot, x.part(NONE, lot));
        }
        sheet.says("NONE: other numbers,");
        House y = sheet.house();
        int[] least = {1, 1, 0, 0, 0};
        int[] most = {100000, 10000, 100, 100, 100};
        for (int i = 0; i < 5; i++) {
            for (int other : new int[] {LOW, least[i] - 1, most[i] + 1, HIGH}) {
                int[] n = {5, 5, 5, 5, 5};
                n[i] = other;
                y.due(NONE, y.lot(n[0], n[1], n[2], n[3], n[4]));
            }
        }
        y.due(0, y.count(0));
        y.due(0, y.lot(1, 1, 0, 0, 0));
        y.due(1, y.lot(100000, 10000, 100, 100, 100));
        sheet.says("12 are there.");
        y.lots(9);
        y.due(11, y.count(0));
        y.due(11, y.lot(9, 9, 9, 9, 9));
        y.due(NONE, y.lot(9, 9, 9, 9, 9));
        y.due(NONE, y.lot(0, 9, 9, 9, 9));
        y.due(12, y.count(0));
    }

    private void days() {
        sheet.section("Promise 3: days");
        sheet.says("n DAYS pass (0 .. 100): NOW;");
        House x = sheet.house();
        x.due(0, x.days(0));
        x.due(1, x.days(1));
        x.due(100, x.days(99));
        x.due(200, x.days(100));
        x.due(200, x.count(2));
        sheet.says("NONE for another n,");
        for (int n : new int[] {LOW, -101, -1, 101, 999, 1000, HIGH}) {
            x.due(NONE, x.days(n));
            x.due(200, x.count(2));
        }
        sheet.says("beyond 999.");
        for (int i = 3; i <= 9; i++) {
            x.due(100 * i, x.days(100));
        }
        x.due(NONE, x.days(100));
        x.due(999, x.days(99));
        x.due(NONE, x.days(1));
        x.due(NONE, x.days(100));
        x.due(NONE, x.days(HIGH));
        x.due(999, x.days(0));
    }

    /** How far W, 200 in MINUTE 0, is from the CURVE there. */
    private static int wayAtFirst(House x) {
        x.roast(0, 100);
        return x.roasted(4);
    }

    private void curve() {
        sheet.section("Promise 4: curve");
        sheet.says("The CURVE's warmth of a MINUTE: true;");
        House x = sheet.house().lots(1).dropping();
        x.due(0, wayAtFirst(x));
        int[] told = {0, 1, 199, 200, 201, 399, 400, 0};
        for (int warmth : told) {
            x.due(true, x.curve(0, warmth));
            x.due(Math.abs(200 - warmth), wayAtFirst(x));
        }
        x.due(true, x.curve(19, 0));
        x.due(200, wayAtFirst(x));
        sheet.says("false: none such,");
        for (int minute : new int[] {LOW, -1, 20, HIGH}) {
            x.due(false, x.curve(minute, 100));
        }
        x.due(200, wayAtFirst(x));
        sheet.says("another one.");
        for (int warmth : new int[] {LOW, -1, 401, HIGH}) {
            x.due(false, x.curve(0, warmth));
            x.due(false, x.curve(19, warmth));
        }
        x.due(200, wayAtFirst(x));
    }

    private void feed() {
        sheet.section("Promise 5: feed");
        sheet.says("Up to 24 signs come behind the TAPE:");
        House x = sheet.house();
        x.due(0, x.feed(0, 0, 0));
        x.due(1, x.feed(0, 0, 0x20));
        x.due(24, x.feed(BLANKS, BLANKS, 0x0020202020202020L));
        x.due(48, x.feed(BLANKS, BLANKS, BLANKS));
        // Behind what is there: "drop wh" and "en 1;".
        House y = sheet.house();
        y.due(7, y.feed(0x64726F70207768L, 0, 0));
        y.due(12, y.feed(0x656E20313BL, 0, 0));
        y.due(0, y.text());
        y.due(1, y.count(3));
        sheet.says("the bytes of a, b, c, of each the highest first;");
        // "drop whe", "n 1;drop", " when 1;" and no other order of the three is a text.
        long a = 0x64726F7020776865L;
        long b = 0x6E20313B64726F70L;
        long c = 0x207768656E20313BL;
        House z = sheet.house();
        z.due(24, z.feed(a, b, c));
        z.due(0, z.text());
        z.due(2, z.count(3));
        z.due(24, z.feed(b, a, c));
        z.due(1, z.text());
        z.due(24, z.feed(a, c, b));
        z.due(1 + 16 * 5, z.text());
        // The highest byte of each, the lowest of each, and a byte with its top bit in front of one.
        z.due(3, z.feed(0x3F00000000000000L, 0x3F00000000000000L, 0x3F00000000000000L));
        z.due(6, z.feed(0x3F, 0x3F, 0x3F));
        z.due(7, z.feed(0xFF3F000000000000L, 0, 0));
        z.due(7, z.count(4));
    }

    private void feedBeyond() {
        sheet.says("others than 10 and 32 .. 126,");
        House x = sheet.house();
        int[] others = {0, 9, 11, 31, 127, 128, 138, 160, 255};
        for (int other : others) {
            x.due(0, x.feed(other, (long) other << 56, (long) other << 24));
        }
        x.due(0, x.feed(-1, -1, -1));
        x.due(0, x.feed(Long.MIN_VALUE, Long.MIN_VALUE, Long.MIN_VALUE));
        int[] signs = {10, 32, 33, 125, 126};
        for (int i = 0; i < signs.length; i++) {
            x.due(i + 1, x.feed(0, signs[i], 0));
        }
        // Those left out leave no gap: 'd' 'r' 9 'o' 127 'p' is a word.
        House y = sheet.house();
        y.due(12, y.feed(0x6472096F7F700020L, 0x7768656E20000031L, 0x80FF3B));
        y.due(0, y.text());
        sheet.says("and what is beyond 600, are left out:");
        House z = sheet.house().tape(" ".repeat(24 * 24));
        z.due(599, z.feed(BLANKS, BLANKS, 0x0020202020202020L));
        z.due(600, z.feed(0x2000000000000000L, 0, 0));
        z.due(600, z.feed(0, 0, 0x3F));
        z.due(600, z.feed(BLANKS, BLANKS, BLANKS));
        z.due(0, z.text());
        // Of 24 signs the first 20 find room; the four ? behind them do not.
        House w = sheet.house().tape(" ".repeat(580));
        w.due(600, w.feed(0x64726F7020776865L, 0x6E20313B20202020L, 0x202020203F3F3F3FL));
        w.due(0, w.text());
        w.due(1, w.count(3));
        sheet.says("how many there are.");
        House v = sheet.house();
        for (int i = 1; i <= 25; i++) {
            v.due(24 * i, v.feed(BLANKS, BLANKS, BLANKS));
            v.due(24 * i, v.count(4));
        }
        v.due(600, v.feed(BLANKS, BLANKS, BLANKS));
        v.text();
        v.due(0, v.feed(0, 0, 0));
    }

    private void text() {
        sheet.section("Promise 6: text");
        sheet.says("The TAPE is read as a TEXT, in place of the one there was:");
        House x = sheet.house().lots(1);
        x.due(0, x.read("drop when minute = 3; drop when minute = 4;"));
        x.due(2, x.count(3));
        x.roast(0, 100);
        x.due(3, x.roasted(0));
        x.due(0, x.read("drop when minute = 5;"));
        x.due(1, x.count(3));
        x.roast(0, 100);
        x.due(5, x.roasted(0));
        // An empty TAPE is a TEXT of no line.
        x.due(0, x.text());
        x.due(0, x.count(3));
        x.roast(0, 100);
        x.due(20, x.roasted(0));
        sheet.says("0, or its FAULT.");
        x.due(0, x.read("drop when minute = 7;"));
        for (String wrong : new String[] {"drop when 1", "fire 10 when 1;", "drop when 1; ?", "drop when (((((1", "?"}) {
            int fault = x.read(wrong);
            x.due(1, fault > 0 ? 1 : 0);
            // What has a FAULT is no TEXT, so the one there was stays.
            x.due(1, x.count(3));
            x.due(0, x.count(4));
            x.roast(0, 100);
            x.due(7, x.roasted(0));
        }
        x.due(1 + 16 * 4, x.read("fire"));
        x.due(4 + 16 * 5, x.read("fire 10"));
        x.due(5 + 16 * 192, x.read("drop when 1;".repeat(17)));
        x.due(0, x.read("fire 9 when 1;"));
        x.due(1, x.count(3));
    }

    private void roast() {
        sheet.section("Promise 7: roast");
        sheet.says("A ROAST: the BAG;");
        House x = sheet.house().lots(2).dropping();
        x.due(0, x.roast(0, 20000));
        x.due(1, x.roast(1, 2));
        x.due(19000, x.bag(0, 0));
        x.due(1, x.bag(1, 0));
        sheet.says("-1: no such LOT,");
        for (int lot : new int[] {LOW, -1, 2, 12, HIGH}) {
            x.due(-1, x.roast(lot, 100));
        }
        x.due(80000, x.part(NONE, 0));
        x.due(99998, x.part(NONE, 1));
        sheet.says("grams,");
        for (int grams : new int[] {LOW, -1, 0, 20001, HIGH}) {
            x.due(-1, x.roast(0, grams));
        }
        x.lot(10, 5, 5, 5, 5);
        x.due(-1, x.roast(2, 11));
        x.due(2, x.count(1));
        x.due(80000, x.part(NONE, 0));
        x.due(10, x.part(NONE, 2));
        x.due(2, x.roast(2, 10));
        x.due(-1, x.roast(2, 1));
        sheet.says("60 are there (nothing is taken);");
        for (int bag = 3; bag < 60; bag++) {
            x.due(bag, x.roast(1, 10));
        }
        int left = x.part(NONE, 1);
        x.due(0, x.read("drop when minute = 9;"));
        x.due(-1, x.roast(1, 10));
        x.due(-1, x.roast(1, 1));
        x.due(left, x.part(NONE, 1));
        x.due(60, x.count(1));
        x.due(0, x.roasted(0));
        sheet.says("-2: nothing came out (the grams are gone).");
        House y = sheet.house().lots(1).dropping();
        y.due(-2, y.roast(0, 1));
        y.due(99999, y.part(NONE, 0));
        y.due(0, y.count(1));
        y.due(0, y.count(6));
        y.due(1, y.roasted(3));
        y.due(0, y.roast(0, 2));
        y.due(99997, y.part(NONE, 0));
        for (int bag = 1; bag < 59; bag++) {
            y.roast(0, 10);
        }
        // With 59 there it may still come to nothing, and to a BAG.
        y.due(-2, y.roast(0, 1));
        y.due(59, y.count(1));
        y.due(59, y.roast(0, 2));
    }

    private void roasted() {
        sheet.section("Promise 8: roasted");
        sheet.says("NONE ahead of any,");
        House x = sheet.house().lots(1);
        for (int what = -1; what <= 5; what++) {
            x.due(NONE, x.roasted(what));
        }
        // A ROAST that is refused is none.
        x.due(-1, x.roast(0, 0));
        x.due(-1, x.roast(1, 10));
        x.due(NONE, x.roasted(0));
        sheet.says("Of the latest ROAST, what 0: MINUTES that went by, 1: the last W, 2: LOSS, 3: 1 if it was dropped,");
        x.due(0, x.roast(0, 100));
        int[] whole = {20, 283, 130, 0, 81};
        for (int what = 0; what <= 4; what++) {
            x.due(whole[what], x.roasted(what));
        }
        x.due(0, x.read("drop when minute = 19;"));
        x.due(1, x.roast(0, 100));
        int[] nearly = {19, 281, 127, 1, 81};
        for (int what = 0; what <= 4; what++) {
            x.due(nearly[what], x.roasted(what));
        }
        // One that gave nothing is the latest, one that is refused is not.
        x.due(0, x.read("drop when minute = 1;"));
        x.due(-2, x.roast(0, 1));
        x.due(-1, x.roast(0, 20001));
        int[] nothing = {1, 206, 54, 1, 6};
        for (int what = 0; what <= 4; what++) {
            x.due(nothing[what], x.roasted(what));
        }
        x.dropping();
        x.due(2, x.roast(0, 100));
        int[] atOnce = {0, 200, 50, 1, 0};
        for (int what = 0; what <= 4; what++) {
            x.due(atOnce[what], x.roasted(what));
        }
        sheet.says("for another what.");
        for (int what : new int[] {LOW, -1, 5, HIGH}) {
            x.due(NONE, x.roasted(what));
        }
    }

    private void greatestWay() {
        sheet.says("4: the greatest way of W from the CURVE ahead of a MINUTE's growing, drop's, too;");
        // W is 200, 206, 212 .. 281 ahead of MINUTES 0 .. 19, and 283 behind the last, which does not count.
        House x = sheet.house().lots(1);
        x.roast(0, 100);
        x.due(81, x.roasted(4));
        // In the MINUTE of drop it counts, behind it not: 212 against 0, and MINUTE 3 against 400.
        x.due(0, x.read("drop when minute = 2;"));
        x.curve(2, 0);
        x.curve(3, 400);
        x.roast(0, 100);
        x.due(212, x.roasted(4));
        x.curve(2, 212);
        x.roast(0, 100);
        x.due(6, x.roasted(4));
        // Above the CURVE and below it alike.
        x.curve(1, 206);
        x.curve(0, 199);
        x.roast(0, 100);
        x.due(1, x.roasted(4));
        x.curve(0, 201);
        x.roast(0, 100);
        x.due(1, x.roasted(4));
        x.curve(0, 200);
        x.roast(0, 100);
        x.due(0, x.roasted(4));
        // The farthest there is: 400 from 0, and 20 from 400.
        x.due(0, x.read("fire 9 when 1; drum 0 when 1;"));
        x.curve(19, 0);
        x.roast(0, 100);
        x.due(400, x.roasted(4));
        x.due(0, x.read("fire 0 when 1; drum 9 when 1;"));
        x.curve(19, 400);
        x.roast(0, 100);
        x.due(380, x.roasted(4));
    }

    private void take() {
        sheet.section("Promise 9: take");
        sheet.says("Grams of a BAG are told for the next blend(): how many BAGS are told;");
        House x = sheet.house().lots(1).dropping();
        for (int bag = 0; bag < 58; bag++) {
            x.due(bag, x.roast(0, 100));
        }
        for (int bag = 57; bag >= 1; bag--) {
            x.due(58 - bag, x.take(bag, bag));
        }
        // Told, not taken yet.
        x.due(95, x.bag(57, 0));
        x.due(57, x.count(5));
        sheet.says("NONE: no such BAG,");
        for (int bag : new int[] {LOW, -1, 58, 60, HIGH}) {
            x.due(NONE, x.take(bag, 1));
        }
        sheet.says("grams,");
        for (int grams : new int[] {LOW, -1, 0, 96, HIGH}) {
            x.due(NONE, x.take(0, grams));
        }
        x.due(57, x.count(5));
        sheet.says("it is told,");
        x.due(NONE, x.take(57, 1));
        x.due(NONE, x.take(1, 1));
        x.due(58, x.take(0, 95));
        x.due(58, x.blend());
        x.due(57 * 58 / 2 + 95, x.bag(58, 0));
        x.due(38, x.bag(57, 0));
        x.due(NONE, x.take(0, 1));
        x.due(1, x.take(57, 38));
        sheet.says("it is in a HOUSE.");
        x.due(true, x.send(5, 0));
        x.due(true, x.send(6, 9));
        x.due(NONE, x.take(5, 1));
        x.due(NONE, x.take(6, 1));
        x.due(2, x.take(7, 1));
    }

    private void blend() {
        sheet.section("Promise 10: blend");
        sheet.says("BLENDING of what was told (nothing is told then): the BAG;");
        House x = sheet.house().lots(1).dropping();
        for (int bag = 0; bag < 58; bag++) {
            x.due(bag, x.roast(0, 100));
        }
        x.take(0, 95);
        x.take(57, 1);
        x.due(58, x.blend());
        x.due(96, x.bag(58, 0));
        x.due(0, x.count(5));
        sheet.says("NONE: nothing is told,");
        x.due(NONE, x.blend());
        x.due(59, x.count(1));
        x.take(58, 97);
        x.due(NONE, x.blend());
        sheet.says("60 are there.");
        x.due(1, x.take(58, 96));
        x.due(59, x.blend());
        x.due(60, x.count(1));
        x.due(NONE, x.blend());
        x.due(1, x.take(59, 1));
        x.due(2, x.take(1, 5));
        x.due(NONE, x.blend());
        // Nothing was blended, so what is told is told still.
        x.due(2, x.count(5));
        x.due(96, x.bag(59, 0));
        x.due(95, x.bag(1, 0));
        x.due(NONE, x.take(1, 1));
        x.due(false, x.send(59, 0));
        x.due(60, x.count(1));
    }

    private void bag() {
        sheet.section("Promise 11: bag");
        sheet.says("Of a BAG, what 0: grams, 1: the DAY when roasted, 2: its HOUSE (NONE), 3: how many LOTS are in it.");
        House x = sheet.house().lots(12).dropping();
        x.due(THROWN, x.bag(0, 0));
        x.days(42);
        for (int lot = 0; lot < 12; lot++) {
            x.due(lot, x.roast(lot, 100));
            x.take(lot, 1 + lot);
        }
        x.days(1);
        x.due(12, x.blend());
        x.due(78, x.bag(12, 0));
        x.due(42, x.bag(12, 1));
        x.due(NONE, x.bag(12, 2));
        x.due(12, x.bag(12, 3));
        x.due(94, x.bag(0, 0));
        x.due(1, x.bag(0, 3));
        x.due(true, x.send(12, 0));
        x.due(0, x.bag(12, 2));
        x.due(true, x.send(11, 9));
        x.due(9, x.bag(11, 2));
        // 0 LOTS in an empty one.
        x.take(0, 94);
        x.blend();
        x.due(0, x.bag(0, 0));
        x.due(0, x.bag(0, 3));
        x.due(42, x.bag(0, 1));
        sheet.says("NoSuchElementException: none such.");
        for (int what = 0; what <= 3; what++) {
            for (int bag : new int[] {LOW, -1, 14, 60, HIGH}) {
                x.due(THROWN, x.bag(bag, what));
            }
        }
        for (int what : new int[] {LOW, -1, 4, HIGH}) {
            x.due(THROWN, x.bag(0, what));
            x.due(THROWN, x.bag(13, what));
        }
        x.due(94, x.bag(13, 0));
    }

    private void part() {
        sheet.section("Promise 12: part");
        sheet.says("Grams of a LOT in a BAG (green ones left: bag NONE);");
        House x = sheet.house().lots(3).dropping();
        x.due(100000, x.part(NONE, 0));
        x.due(0, x.roast(0, 100));
        x.due(1, x.roast(2, 2));
        x.due(99900, x.part(NONE, 0));
        x.due(100000, x.part(NONE, 1));
        x.due(99998, x.part(NONE, 2));
        x.due(95, x.part(0, 0));
        x.due(0, x.part(0, 1));
        x.due(0, x.part(0, 2));
        x.due(1, x.part(1, 2));
        x.due(0, x.part(1, 0));
        sheet.says("NONE: none such.");
        for (int lot : new int[] {LOW, -1, 3, 12, HIGH}) {
            x.due(NONE, x.part(NONE, lot));
            x.due(NONE, x.part(0, lot));
        }
        for (int bag : new int[] {LOW, -2, 2, 60, HIGH}) {
            x.due(NONE, x.part(bag, 0));
        }
        x.lots(9);
        x.due(0, x.part(0, 11));
        x.due(100000, x.part(NONE, 11));
        x.due(NONE, x.part(0, 12));
    }
}
