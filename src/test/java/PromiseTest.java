/** Each promise of the document on its own: ordinary inputs, the edges that it names, and wrong inputs. */
public final class PromiseTest {
    private static final int LOW = House.LOW;
    private static final int HIGH = House.HIGH;
    private static final Tally TALLY = new Tally();

    public static void main(String[] args) {
        newObject();
        lot();
        days();
        curve();
        feed();
        textFaults();
        textLimits();
        textTokens();
        textReplaces();
        textsAgain();
        roastAnswers();
        roastActs();
        roastValues();
        valuesOfTheNextRoast();
        roasted();
        take();
        blend();
        blendShares();
        blendOfMuch();
        bag();
        part();
        mark();
        told();
        order();
        worth();
        span();
        best();
        bestTies();
        tenths();
        send();
        keeps();
        stale();
        found();
        led();
        fullHouse();
        count();
        TALLY.end();
    }

    // ---- helpers

    private static void due(String call, long got, long want) {
        TALLY.due(call, want, got);
    }

    private static void due(String call, boolean got, boolean want) {
        due(call, got ? 1 : 0, want ? 1 : 0);
    }

    private static void dueText(String signs, int kind, int place) {
        House x = house();
        due("text() of \"" + signs + "\"", x.read(signs), kind + 16 * place);
        due("count(4) behind text()", x.count(4), 0);
    }

    private static void dueText(String signs) {
        dueText(signs, 0, 0);
    }

    private static House house() {
        return new House(TALLY);
    }

    /** A house with some lots of 100,000 grams each. */
    private static House withLots(int lots) {
        return house().lots(lots);
    }

    /** A house whose roasts are dropped at once: 50 of 1,000 are lost. */
    private static House dropping(int lots) {
        return withLots(lots).dropping();
    }

    private static int thrownByBag(House x, int bag, int what) {
        return x.bag(bag, what) == House.THROWN ? 1 : 0;
    }

    private static void fillBags(House x) {
        for (int i = x.count(1); i < 60; i++) {
            due("roast of a bag more", x.roast(0, 100), i);
        }
    }

    // ---- promise 1

    private static void newObject() {
        House x = house();
        for (int what = 0; what <= 6; what++) {
            due("new: count(" + what + ")", x.count(what), 0);
        }
        due("new: roasted(0)", x.roasted(0), -1);
        due("new: tenths(0)", x.tenths(0), -1);
        due("new: part(-1, 0)", x.part(-1, 0), -1);
        due("new: found(0, 0)", x.found(0, 0), -1);
        due("new: stale(0)", x.stale(0), 0);
        due("new: worth(0)", x.worth(0), -1000000);
        due("NONE", RoastHouse.NONE, -1);
    }

    // ---- promise 2

    private static void lot() {
        House x = house();
        int[][] refused = {
            {0, 1, 0, 0, 0}, {100001, 1, 0, 0, 0}, {1, 0, 0, 0, 0}, {1, 10001, 0, 0, 0},
            {1, 1, -1, 0, 0}, {1, 1, 101, 0, 0}, {1, 1, 0, -1, 0}, {1, 1, 0, 101, 0}, {1, 1, 0, 0, -1}, {1, 1, 0, 0, 101},
            {LOW, 1, 0, 0, 0}, {HIGH, 1, 0, 0, 0}, {1, LOW, 0, 0, 0}, {1, HIGH, 0, 0, 0}, {1, 1, LOW, HIGH, LOW},
        };
        for (int[] r : refused) {
            due("lot of other numbers", x.lot(r[0], r[1], r[2], r[3], r[4]), -1);
        }
        due("count(0)", x.count(0), 0);
        due("least lot", x.lot(1, 1, 0, 0, 0), 0);
        due("greatest lot", x.lot(100000, 10000, 100, 100, 100), 1);
        due("part(-1, 0)", x.part(-1, 0), 1);
        due("part(-1, 1)", x.part(-1, 1), 100000);
        for (int i = 2; i < 12; i++) {
            due("lot " + i, x.lot(10 + i, 5, 1, 2, 3), i);
        }
        due("13th lot", x.lot(10, 5, 1, 2, 3), -1);
        due("count(0)", x.count(0), 12);
        due("part(-1, 11)", x.part(-1, 11), 21);
    }

    // ---- promise 3

    private static void days() {
        House x = house();
        due("days(0)", x.days(0), 0);
        due("days(7)", x.days(7), 7);
        due("days(-1)", x.days(-1), -1);
        due("days(101)", x.days(101), -1);
        due("days(LOW)", x.days(LOW), -1);
        due("days(HIGH)", x.days(HIGH), -1);
        for (int i = 1; i <= 9; i++) {
            due("days(100)", x.days(100), 7 + 100 * i);
        }
        due("days(93) beyond 999", x.days(93), -1);
        due("days(100) beyond 999", x.days(100), -1);
        due("count(2)", x.count(2), 907);
        due("days(92)", x.days(92), 999);
        due("days(1) beyond 999", x.days(1), -1);
        due("days(0)", x.days(0), 999);
    }

    // ---- promise 4

    private static void curve() {
        House x = withLots(1);
        due("curve(-1, 0)", x.curve(-1, 0), false);
        due("curve(20, 0)", x.curve(20, 0), false);
        due("curve(0, -1)", x.curve(0, -1), false);
        due("curve(0, 401)", x.curve(0, 401), false);
        due("curve(LOW, 0)", x.curve(LOW, 0), false);
        due("curve(HIGH, HIGH)", x.curve(HIGH, HIGH), false);
        x.read("drop when minute = 0;");
        x.roast(0, 100);
        due("way from the curve told at first", x.roasted(4), 0);
        due("curve(0, 0)", x.curve(0, 0), true);
        x.roast(0, 100);
        due("way from 0", x.roasted(4), 200);
        due("curve(0, 400)", x.curve(0, 400), true);
        due("curve(0, 401)", x.curve(0, 401), false);
        due("curve(1, 350)", x.curve(1, 350), true);
        x.roast(0, 100);
        due("way from 400", x.roasted(4), 200);
        due("curve(0, 190)", x.curve(0, 190), true);
        due("curve(19, 400)", x.curve(19, 400), true);
        x.curve(1, 200);
        x.read("drop when told = 400;");
        x.roast(0, 100);
        due("minute 19 is told 400", x.roasted(0), 19);
        due("way from 400 there", x.roasted(4), 400 - 281);
    }

    // ---- promise 5

    private static void feed() {
        House x = house();
        due("feed of none", x.feed(0, 0, 0), 0);
        due("feed of signs that are left out", x.feed(0x097F80FF1F0B0D00L, -1L, Long.MIN_VALUE), 0);
        due("feed of the signs at the edges", x.feed(0x0A207E0000000000L, 0, 0x7E), 4);
        due("count(4)", x.count(4), 4);
        due("text() of these", x.text(), 1 + 16 * 2);
        due("count(4)", x.count(4), 0);
        due("the highest byte first, a ahead of b and c",
                x.feed(0x64726F7000000000L, 0x0077680065006E00L, 0x203B310000000000L), 11);
        due("text() of \"dropwhen ;1\"", x.text(), 1);
        due("highest first", x.feed(0x64726F7020776865L, 0x6E20000000000031L, 0x000000000000003BL), 12);
        due("text() of \"drop when 1;\"", x.text(), 0);
        due("count(3)", x.count(3), 1);
        long blanks = 0x2020202020202020L;
        for (int i = 1; i <= 24; i++) {
            due("feed of 24 blanks", x.feed(blanks, blanks, blanks), 24 * i);
        }
        House y = house();
        for (int i = 1; i <= 24; i++) {
            y.feed(blanks, blanks, blanks);
        }
        due("590 signs", y.feed(blanks, 0x2020202020200000L, 0), 590);
        due("what is beyond 600 is left out", y.feed(0x64726F7020776865L, 0x6E20313BL << 32, 0), 600);
        due("feed of a full tape", y.feed(blanks, blanks, blanks), 600);
        due("text() ends at 600", y.text(), 1 + 16 * 600);
        due("feed of 24 blanks makes 600", x.feed(blanks, blanks, blanks), 600);
        due("one more", x.feed(0, 0, 32), 600);
        due("600 blanks are a text without lines", x.text(), 0);
        due("count(3)", x.count(3), 0);
    }

    // ---- promise 6

    private static void textFaults() {
        dueText("");
        dueText("drop when 1;");
        dueText("fire 0 when minute;drum 9 when warmth;");
        dueText("fire", 1, 4);
        dueText("fire ", 1, 5);
        dueText("when 1;", 1, 0);
        dueText("and", 1, 0);
        dueText(";", 1, 0);
        dueText("5", 1, 0);
        dueText("fire when 1;", 1, 5);
        dueText("fire 1 1;", 1, 7);
        dueText("fire 1 when ;", 1, 12);
        dueText("fire 1 when 1", 1, 13);
        dueText("fire 1 when 1 \n ", 1, 16);
        dueText("fire 1 when 1;;", 1, 14);
        dueText("fire 1 when when;", 1, 12);
        dueText("fire 1 when drop;", 1, 12);
        dueText("fire 1 when 1 1;", 1, 14);
        dueText("fire 1 when 1 +;", 1, 15);
        dueText("fire 1 when -1;", 1, 12);
        dueText("fire -1 when 1;", 1, 5);
        dueText("fire 1 when 1 < ;", 1, 16);
        dueText("fire 1 when 1 = 2 = 3;", 1, 18);
        dueText("fire 1 when 1 < 2 = 3;", 1, 18);
        dueText("fire 1 when 1 = 2 < 3;", 1, 18);
        dueText("fire 1 when (1 = 2) = (3 < 4);");
        dueText("fire 1 when 1 < 2 and 3 = 4 and 5;");
        dueText("fire 1 when and 1;", 1, 12);
        dueText("drop and 1;", 1, 5);
        dueText("drop when 1 when 1;", 1, 12);
        dueText("fire 1 when 1 and and 1;", 1, 18);
        dueText("fire 1 when ();", 1, 13);
        dueText("fire 1 when (1;", 1, 14);
        dueText("fire 1 when 1);", 1, 13);
        dueText("fire 1 when (1));", 1, 15);
        dueText("fire 1 when (1 and 2 < 3 + (4 - 5));");
        dueText("drop 1 when 1;", 1, 5);
        dueText("drop when 1 drop when 1;", 1, 12);
        dueText("fire 1 when minute+warmth-told+rise-fire+drum-grams;");
        dueText("drop when 1; stop", 1, 13);
        dueText("fire 10 when 1;", 4, 5);
        dueText("drum 10 when 1;", 4, 5);
        dueText("fire 9999 stop", 4, 5);
        dueText("drum 0009 when 9999;");
        dueText("drum 0010 when 1;", 4, 5);
        dueText("fire 10000 when 1;", 1, 5);
        dueText("fire 00009 when 1;", 1, 5);
        dueText("drop when 10000;", 1, 10);
        dueText("fire 10", 4, 5);
        dueText("drop when 1; fire 10 when ?;", 4, 18);
    }

    private static void textLimits() {
        String line = "drop when 1;";
        dueText(line.repeat(16));
        dueText(line.repeat(16) + " \n");
        dueText(line.repeat(17), 5, 16 * 12);
        dueText(line.repeat(16) + "fire", 5, 16 * 12);
        dueText(line.repeat(16) + "\n drum 77", 5, 16 * 12 + 2);
        dueText(line.repeat(16) + "stop", 1, 16 * 12);
        dueText(line.repeat(16) + "when", 1, 16 * 12);
        dueText(line.repeat(16) + ";", 1, 16 * 12);
        dueText(line.repeat(16) + "?", 1, 16 * 12);
        dueText("drop when ((((1))));");
        dueText("drop when (((((1)))));", 5, 15);
        dueText("drop when (((((minute", 5, 15);
        dueText("drop when ((((((", 5, 15);
        dueText("drop when (((((;", 1, 15);
        dueText("drop when ((((()", 1, 15);
        dueText("drop when (((((+", 1, 15);
        dueText("drop when (((((when", 1, 15);
        dueText("drop when (((((12345", 1, 15);
        dueText("drop when (((((", 1, 15);
        dueText("drop when ((((1)))) + ((((2)))) and (((3 = ((4)))));", 5, 45);
        dueText("drop when ((((1)))) + ((((2)))) and (((3 = (4))));");
        dueText("drop when 1+((1<1+((1<1+((1<1+(1)))))));", 5, 25);
    }

    private static void textTokens() {
        dueText("fire9when1and(2)<3;drum 1when minute-1warmth;", 1, 38);
        dueText("fire9when1and(2)<3;drum 1when minute-1;");
        dueText("drop\nwhen\n1\n;\n");
        dueText("dropwhen 1;", 1, 0);
        dueText("drop whe n 1;", 1, 5);
        dueText("Drop when 1;", 1, 0);
        dueText("drop When 1;", 1, 5);
        dueText("dropX when 1;", 1, 4);
        dueText("drops when 1;", 1, 0);
        dueText("dro when 1;", 1, 0);
        dueText("drop when minutes;", 1, 10);
        dueText("drop when minut;", 1, 10);
        dueText("drop when warmthwarmth;", 1, 10);
        dueText("drop when 1 ! 2;", 1, 12);
        dueText("drop when 1 > 2;", 1, 12);
        dueText("drop when 1 * 2;", 1, 12);
        dueText("drop when 1 == 2;", 1, 13);
        dueText("drop when 1 : 2;", 1, 12);
        dueText("drop when 1, 2;", 1, 11);
        dueText("drop when [1];", 1, 10);
        dueText("drop when 1.5;", 1, 11);
        dueText("drop when 1a;", 1, 11);
        dueText("drop when 1and 2;");
        dueText("drop when a1;", 1, 10);
        dueText("drop when rise1;", 1, 14);
        dueText("drop when 1 2345;", 1, 12);
        dueText("~", 1, 0);
    }

    private static void textReplaces() {
        House x = withLots(1);
        due("text()", x.read("drop when minute = 3; fire 9 when 0;"), 0);
        due("count(3)", x.count(3), 2);
        due("text() with a fault", x.read("drop when 1; drop"), 1 + 16 * 17);
        due("count(3) of the text that stays", x.count(3), 2);
        x.roast(0, 100);
        due("roasted(0) by the text that stays", x.roasted(0), 3);
        due("text()", x.read("drop when minute = 5;"), 0);
        due("count(3)", x.count(3), 1);
        x.roast(0, 100);
        due("roasted(0) by the new text", x.roasted(0), 5);
        x.tape("drop when ");
        x.tape("minute = 7;");
        due("text() fed in two", x.text(), 0);
        x.roast(0, 100);
        due("roasted(0) by that", x.roasted(0), 7);
        due("text() of an empty tape", x.text(), 0);
        due("count(3)", x.count(3), 0);
        x.roast(0, 100);
        due("roasted(0) without lines", x.roasted(0), 20);
    }

    /** The tape and the text's rows are used again: nothing of what was there may shine through. */
    private static void textsAgain() {
        House x = withLots(1);
        x.read("drop when 12;");
        due("a number in front of older digits", x.read("drop when 1"), 1 + 16 * 11);
        x.read("drop when minute");
        due("a word in front of older letters", x.read("drop when minut"), 1 + 16 * 10);
        due("a word in front of older letters", x.read("drop whe"), 1 + 16 * 5);
        String sum = "1+".repeat(280);
        due("560 signs of a sum", x.read("drop when " + sum + "minute=285;"), 0);
        x.roast(0, 100);
        due("minutes by it", x.roasted(0), 5);
        due("560 signs of tests", x.read("drop when " + "1and ".repeat(110) + "minute;"), 0);
        x.roast(0, 100);
        due("minutes by these", x.roasted(0), 1);
        House y = withLots(1);
        for (int i = 1; i <= 8; i++) {
            due("a long text again", y.read("drop when " + sum + "minute=" + (280 + i) + ";"), 0);
            y.roast(0, 100);
            due("minutes by it", y.roasted(0), i);
            due("a long text with a fault", y.read("drop when " + sum), 1 + 16 * 570);
        }
        textsUpToTheLastSign();
    }

    private static void textsUpToTheLastSign() {
        House x = house();
        due("a word up to the last sign", x.read(" ".repeat(596) + "drop"), 1 + 16 * 600);
        due("a number up to the last sign", x.read(" ".repeat(586) + "drop when 1234"), 1 + 16 * 600);
        due("a line up to the last sign", x.read(" ".repeat(588) + "drop when 1;"), 0);
        due("a line beyond the last sign", x.read(" ".repeat(589) + "drop when 1;"), 1 + 16 * 600);
    }

    // ---- promise 7

    private static void roastAnswers() {
        House x = house();
        due("roast without a lot", x.roast(0, 1), -1);
        x.lot(50000, 1, 0, 0, 0);
        x.lot(150, 1, 0, 0, 0);
        x.read("drop when 1;");
        due("roast(-1, 1)", x.roast(-1, 1), -1);
        due("roast(2, 1)", x.roast(2, 1), -1);
        due("roast(LOW, 1)", x.roast(LOW, 1), -1);
        due("roast(HIGH, 1)", x.roast(HIGH, 1), -1);
        due("roast(0, 0)", x.roast(0, 0), -1);
        due("roast(0, -5)", x.roast(0, -5), -1);
        due("roast(0, 20001)", x.roast(0, 20001), -1);
        due("roast(0, HIGH)", x.roast(0, HIGH), -1);
        due("roast(1, 151)", x.roast(1, 151), -1);
        due("none ran", x.roasted(0), -1);
        due("nothing is taken", x.part(-1, 0), 50000);
        due("roast(0, 20000)", x.roast(0, 20000), 0);
        due("its grams", x.bag(0, 0), 19000);
        due("what is left", x.part(-1, 0), 30000);
        due("roast(1, 150)", x.roast(1, 150), 1);
        due("its grams, cut", x.bag(1, 0), 142);
        due("nothing is left", x.part(-1, 1), 0);
        due("roast(1, 1)", x.roast(1, 1), -1);
        due("roast(0, 1)", x.roast(0, 1), -2);
        due("the gram is gone", x.part(-1, 0), 29999);
        due("it was a roast", x.roasted(3), 1);
        due("no bag more", x.count(1), 2);
        x.days(9);
        due("roast(0, 2)", x.roast(0, 2), 2);
        due("one came out", x.part(2, 0), 1);
        due("its day", x.bag(2, 1), 9);
        fillBags(x);
        int left = x.part(-1, 0);
        x.read("drop when minute = 4;");
        due("roast with 60 bags", x.roast(0, 100), -1);
        due("roast of 1 with 60 bags", x.roast(0, 1), -1);
        due("nothing is taken", x.part(-1, 0), left);
        due("the latest roast stays", x.roasted(0), 0);
    }

    private static void dueRoast(String text, int minutes, int warmth, int dropped) {
        House x = withLots(1);
        due("text() of \"" + text + "\"", x.read(text), 0);
        x.roast(0, 1000);
        due("minutes of \"" + text + "\"", x.roasted(0), minutes);
        due("warmth of \"" + text + "\"", x.roasted(1), warmth);
        due("loss of \"" + text + "\"", x.roasted(2), warmth / 4 + 3 * minutes);
        due("drop of \"" + text + "\"", x.roasted(3), dropped);
        due("grams of \"" + text + "\"", x.bag(0, 0), 1000 - warmth / 4 - 3 * minutes);
    }

    private static void roastActs() {
        dueRoast("", 20, 283, 0);
        dueRoast("drop when 1;", 0, 200, 1);
        dueRoast("drop when minute;", 1, 206, 1);
        dueRoast("drop when minute = 19;", 19, 281, 1);
        dueRoast("drop when minute = 20;", 20, 283, 0);
        // 36 - 9 - 0 = 27 in the first minute, and at last 400 is the most.
        dueRoast("fire 9 when 1; drum 0 when 1; drop when minute = 1;", 1, 227, 1);
        dueRoast("fire 9 when 1; drum 0 when 1;", 20, 400, 0);
        // 0 - 9 - 9 = -18 in the first minute, and at last 20 is the least.
        dueRoast("fire 0 when 1; drum 9 when 1; drop when minute = 1;", 1, 182, 1);
        dueRoast("fire 0 when 1; drum 9 when 1;", 20, 20, 0);
        // The later line wins, and what stands behind drop does not act.
        dueRoast("fire 9 when 1; fire 0 when 1; drop when minute = 1;", 1, 186, 1);
        dueRoast("fire 9 when minute = 0; drop when minute = 2;", 2, 243, 1);
        dueRoast("fire 9 when fire = 5; drop when fire = 9;", 0, 200, 1);
        dueRoast("drop when fire = 9; fire 9 when fire = 5;", 1, 222, 1);
        dueRoast("drum 2 when 1; drop when drum = 2 and minute = 1;", 1, 209, 1);
        dueRoast("fire 1 when 0; drop when 0 and 1; drop when minute = 3;", 3, 218, 1);
        // What is below 0 is not 0.
        dueRoast("drop when minute - 1;", 0, 200, 1);
        dueRoast("drop when 3 - 5;", 0, 200, 1);
        dueRoast("drop when minute - minute;", 20, 283, 0);
    }

    private static void roastValues() {
        dueRoast("drop when 206 < warmth;", 2, 212, 1);
        dueRoast("drop when 206 = warmth;", 1, 206, 1);
        dueRoast("drop when rise = 5;", 5, 229, 1);
        dueRoast("drop when rise = 0 and 0 < minute;", 20, 283, 0);
        dueRoast("drop when rise = 0;", 0, 200, 1);
        dueRoast("drop when grams = 1000;", 0, 200, 1);
        dueRoast("drop when grams < 1000;", 20, 283, 0);
        dueRoast("drop when told = 200 and minute = 6;", 6, 234, 1);
        dueRoast("drop when warmth - told = 24;", 4, 224, 1);
        dueRoast("drop when 10 - 3 - 2 = minute;", 5, 229, 1);
        dueRoast("drop when 10 - (3 - 2) = minute;", 9, 248, 1);
        dueRoast("drop when 1 + 2 < minute;", 4, 224, 1);
        dueRoast("drop when minute = 2 + 2;", 4, 224, 1);
        dueRoast("drop when (minute and 5) + 1 = 2;", 1, 206, 1);
        dueRoast("drop when (7 and 5 and 3) + 1 = minute;", 2, 212, 1);
        dueRoast("drop when (2 < 3) + (4 = 4) + (3 < 3) + (4 = 5) = minute;", 2, 212, 1);
        dueRoast("drop when (minute < 3) = 0;", 3, 218, 1);
        dueRoast("drop when 0 < minute and minute;", 1, 206, 1);
        dueRoast("drop when 1 and 2 < minute;", 3, 218, 1);
        dueRoast("drop when (9999 + 9999 - 9999) - 9995 = minute;", 4, 224, 1);
        dueRoast("drop when drum - 5 + fire = minute;", 5, 229, 1);
        // When W is held at 400 or 20, it does not grow.
        dueRoast("fire 9 when 1; drum 0 when 1; drop when rise = 0 and 0 < minute;", 10, 400, 1);
        dueRoast("fire 0 when 1; drum 9 when 1; drop when rise = 0 and 0 < minute;", 15, 20, 1);
        dueRoast("drop when 1+((1<1+((2<1+minute))));", 0, 200, 1);
        dueRoast("drop when 0 and 1<1+(0 and 1<1+(0 and 1<1+(0 and 1<1+(0 and 1<1+minute))));", 20, 283, 0);
        dueRoast("drop when 1 and 1<1+(1 and 1<1+(1 and 1<1+(1 and 1<1+(1 and 4<1+minute))));", 4, 224, 1);
    }

    private static void valuesOfTheNextRoast() {
        House x = withLots(1);
        x.read("drop when minute = 3; drop when minute = 0 and 0 < rise;");
        x.roast(0, 1000);
        x.roast(0, 1000);
        due("rise is 0 in the first minute of the next", x.roasted(0), 3);
        x.read("drop when fire = 5 and drum = 5 and warmth = 200; fire 0 when 1;");
        x.roast(0, 1000);
        due("fire, drum and warmth are as at first", x.roasted(3), 1);
        due("no minute went by", x.roasted(0), 0);
        due("the way is new", x.roasted(4), 0);
    }

    // ---- promise 8

    private static void roasted() {
        House x = withLots(1);
        for (int what = -1; what <= 5; what++) {
            due("roasted(" + what + ") ahead of any", x.roasted(what), -1);
        }
        x.roast(0, 100);
        int[] first = {20, 283, 130, 0, 81};
        for (int what = 0; what < 5; what++) {
            due("roasted(" + what + ")", x.roasted(what), first[what]);
        }
        due("roasted(-1)", x.roasted(-1), -1);
        due("roasted(5)", x.roasted(5), -1);
        due("roasted(LOW)", x.roasted(LOW), -1);
        due("roasted(HIGH)", x.roasted(HIGH), -1);
        x.curve(0, 350);
        x.curve(2, 0);
        x.read("drop when minute = 2;");
        x.roast(0, 1);
        int[] second = {2, 212, 59, 1, 212};
        for (int what = 0; what < 5; what++) {
            due("roasted(" + what + ") of one that gave nothing", x.roasted(what), second[what]);
        }
        x.curve(2, 200);
        x.roast(0, 100);
        due("roasted(4): W below the curve", x.roasted(4), 150);
        x.roast(0, 0);
        due("roasted(4) behind a refused one", x.roasted(4), 150);
        x.curve(0, 200);
        x.curve(3, 0);
        x.roast(0, 100);
        due("roasted(4): minutes behind drop do not count", x.roasted(4), 12);
    }

    // ---- promise 9

    private static void take() {
        House x = dropping(1);
        due("take without a bag", x.take(0, 1), -1);
        for (int i = 0; i < 4; i++) {
            x.roast(0, 1000);
        }
        due("take(-1, 1)", x.take(-1, 1), -1);
        due("take(4, 1)", x.take(4, 1), -1);
        due("take(LOW, 1)", x.take(LOW, 1), -1);
        due("take(HIGH, 1)", x.take(HIGH, 1), -1);
        due("take(0, 0)", x.take(0, 0), -1);
        due("take(0, -1)", x.take(0, -1), -1);
        due("take(0, LOW)", x.take(0, LOW), -1);
        due("take(0, 951)", x.take(0, 951), -1);
        due("take(0, HIGH)", x.take(0, HIGH), -1);
        due("count(5)", x.count(5), 0);
        due("take(0, 950)", x.take(0, 950), 1);
        due("take(0, 1) again", x.take(0, 1), -1);
        due("take(2, 1)", x.take(2, 1), 2);
        due("take(2, 1) again", x.take(2, 1), -1);
        x.send(3, 4);
        due("take of one in a house", x.take(3, 1), -1);
        due("take(1, 1)", x.take(1, 1), 3);
        due("its grams are still there", x.bag(0, 0), 950);
        due("blend()", x.blend(), 4);
        due("take of an empty one", x.take(0, 1), -1);
        due("take anew", x.take(2, 949), 1);
    }

    // ---- promise 10

    private static void blend() {
        House x = dropping(3);
        due("blend() of nothing", x.blend(), -1);
        x.days(5);
        x.roast(0, 1000);
        x.days(2);
        x.roast(1, 1000);
        x.days(2);
        x.roast(2, 1000);
        x.take(2, 100);
        x.take(1, 50);
        x.days(1);
        due("blend()", x.blend(), 3);
        due("its grams", x.bag(3, 0), 150);
        due("its day", x.bag(3, 1), 7);
        due("its house", x.bag(3, 2), -1);
        due("its lots", x.bag(3, 3), 2);
        due("part(3, 0)", x.part(3, 0), 0);
        due("part(3, 1)", x.part(3, 1), 50);
        due("part(3, 2)", x.part(3, 2), 100);
        due("what is left of 1", x.bag(1, 0), 900);
        due("what is left of 2", x.bag(2, 0), 850);
        due("0 as it was", x.bag(0, 0), 950);
        due("its day as it was", x.bag(1, 1), 7);
        due("nothing is told", x.count(5), 0);
        due("blend() of nothing", x.blend(), -1);
        x.take(3, 150);
        x.take(0, 950);
        due("blend() of a blend", x.blend(), 4);
        due("its day", x.bag(4, 1), 5);
        due("its lots", x.bag(4, 3), 3);
        due("an empty one", x.bag(3, 0), 0);
        due("an empty one's lots", x.bag(3, 3), 0);
        due("an empty one's day", x.bag(3, 1), 7);
        fillBags(x);
        due("take(4, 10)", x.take(4, 10), 1);
        due("blend() with 60", x.blend(), -1);
        due("nothing went", x.bag(4, 0), 1100);
        due("it is still told", x.count(5), 1);
        due("it cannot be sent", x.send(4, 1), false);
    }

    private static void blendShares() {
        House x = dropping(3);
        x.roast(0, 1000);
        x.roast(1, 1000);
        x.roast(2, 1000);
        x.take(0, 1);
        x.take(1, 1);
        x.take(2, 1);
        due("1 + 1 + 1", x.blend(), 3);
        // 2 * 1 / 3 of each is 0; equal rests: the least lots.
        x.take(3, 2);
        due("2 of these", x.blend(), 4);
        due("of lot 0", x.part(4, 0), 1);
        due("of lot 1", x.part(4, 1), 1);
        due("of lot 2", x.part(4, 2), 0);
        due("its lots", x.bag(4, 3), 2);
        due("left of lot 2", x.part(3, 2), 1);
        due("left lots", x.bag(3, 3), 1);
        x.take(0, 2);
        x.take(1, 5);
        x.take(2, 3);
        due("2 + 5 + 3", x.blend(), 5);
        // 4 of 10: 0 rest 8, 2 rest 0, 1 rest 2: the one that is left goes to lot 0.
        x.take(5, 4);
        due("4 of these", x.blend(), 6);
        due("of lot 0", x.part(6, 0), 1);
        due("of lot 1", x.part(6, 1), 2);
        due("of lot 2", x.part(6, 2), 1);
        // 5 of 6 with 1, 3, 2: 0 rest 5, 2 rest 3, 1 rest 4: lots 0 and 2.
        x.take(5, 5);
        due("5 of these", x.blend(), 7);
        due("of lot 0", x.part(7, 0), 1);
        due("of lot 1", x.part(7, 1), 2);
        due("of lot 2", x.part(7, 2), 2);
        due("left of lot 1", x.part(5, 1), 1);
        due("left grams", x.bag(5, 0), 1);
        x.take(5, 1);
        x.take(7, 5);
        due("all of both", x.blend(), 8);
        due("of lot 0", x.part(8, 0), 1);
        due("of lot 1", x.part(8, 1), 3);
        due("of lot 2", x.part(8, 2), 2);
        due("grams of all", x.count(6), 3 * 950);
    }

    private static void blendOfMuch() {
        House x = dropping(12);
        for (int i = 0; i < 50; i++) {
            due("roast of 20000", x.roast(i / 5, 20000), i);
            due("take of 19000", x.take(i, 19000), i + 1);
        }
        due("blend() of all", x.blend(), 50);
        due("its grams", x.bag(50, 0), 950000);
        due("its lots", x.bag(50, 3), 10);
        due("take of nearly all", x.take(50, 949999), 1);
        due("blend()", x.blend(), 51);
        for (int lot = 0; lot < 9; lot++) {
            due("of lot " + lot, x.part(51, lot), 95000);
        }
        due("of lot 9", x.part(51, 9), 94999);
        due("what is left", x.part(50, 9), 1);
        due("grams of all", x.count(6), 950000);
    }

    // ---- promise 11

    private static void bag() {
        House x = dropping(2);
        due("bag(0, 0) throws", thrownByBag(x, 0, 0), 1);
        x.days(8);
        x.roast(1, 100);
        due("bag(0, 0)", x.bag(0, 0), 95);
        due("bag(0, 1)", x.bag(0, 1), 8);
        due("bag(0, 2)", x.bag(0, 2), -1);
        due("bag(0, 3)", x.bag(0, 3), 1);
        x.send(0, 9);
        due("bag(0, 2)", x.bag(0, 2), 9);
        int[][] none = {{-1, 0}, {1, 0}, {60, 0}, {LOW, 0}, {HIGH, 0}, {0, -1}, {0, 4}, {0, LOW}, {0, HIGH}};
        for (int[] n : none) {
            due("bag(" + n[0] + ", " + n[1] + ") throws", thrownByBag(x, n[0], n[1]), 1);
        }
    }

    // ---- promise 12

    private static void part() {
        House x = dropping(2);
        due("part(-1, 0)", x.part(-1, 0), 100000);
        due("part(-1, 2)", x.part(-1, 2), -1);
        due("part(-1, -1)", x.part(-1, -1), -1);
        due("part(0, 0) without a bag", x.part(0, 0), -1);
        x.roast(1, 1000);
        due("part(-1, 1)", x.part(-1, 1), 99000);
        due("part(0, 1)", x.part(0, 1), 950);
        due("part(0, 0)", x.part(0, 0), 0);
        due("part(0, 2)", x.part(0, 2), -1);
        due("part(0, -1)", x.part(0, -1), -1);
        due("part(1, 0)", x.part(1, 0), -1);
        due("part(-2, 0)", x.part(-2, 0), -1);
        due("part(60, 0)", x.part(60, 0), -1);
        due("part(HIGH, HIGH)", x.part(HIGH, HIGH), -1);
        due("part(LOW, LOW)", x.part(LOW, LOW), -1);
    }

    // ---- promises 13 to 16

    private static void mark() {
        House x = house();
        int[][] refused = {
            {-1, 0, 0}, {5, 0, 0}, {0, -1, 0}, {0, 20, 0}, {0, 0, -1}, {0, 0, 101},
            {LOW, 0, 0}, {HIGH, 0, 0}, {0, LOW, 0}, {0, HIGH, 0}, {0, 0, LOW}, {0, 0, HIGH},
        };
        x.told(0, 0);
        for (int[] r : refused) {
            due("mark of none such", x.mark(r[0], r[1], r[2]), false);
        }
        due("no mark was given", x.worth(0), -1000000);
        due("mark(0, 0, 0)", x.mark(0, 0, 0), true);
        due("mark(4, 19, 100)", x.mark(4, 19, 100), true);
        due("worth(0)", x.worth(0), 0);
        due("judge 4 marked no told one", x.worth(19), -1000000);
        due("mark(4, 0, 30)", x.mark(4, 0, 30), true);
        due("worth(19)", x.worth(19), 70000);
        due("mark anew", x.mark(4, 19, 60), true);
        due("worth(19)", x.worth(19), 30000);
    }

    private static void told() {
        House x = house();
        due("told(-1, 0)", x.told(-1, 0), false);
        due("told(20, 0)", x.told(20, 0), false);
        due("told(20, -1)", x.told(20, -1), false);
        due("told(0, -2)", x.told(0, -2), false);
        due("told(0, 101)", x.told(0, 101), false);
        due("told(LOW, HIGH)", x.told(LOW, HIGH), false);
        due("told(HIGH, LOW)", x.told(HIGH, LOW), false);
        due("told(3, -1) of one not told", x.told(3, -1), true);
        x.mark(1, 0, 50);
        x.mark(1, 19, 50);
        due("none is told", x.worth(0), -1000000);
        due("told(0, 0)", x.told(0, 0), true);
        due("worth(0)", x.worth(0), 0);
        due("told(19, 100)", x.told(19, 100), true);
        due("worth(0) by both", x.worth(0), 50000);
        due("told anew", x.told(0, 60), true);
        due("worth(0)", x.worth(0), 80000);
        due("told(19, -1)", x.told(19, -1), true);
        due("worth(0)", x.worth(0), 60000);
        due("told(0, -1)", x.told(0, -1), true);
        due("worth(0)", x.worth(0), -1000000);
    }

    private static void order() {
        House x = house();
        x.told(0, 50);
        x.mark(0, 0, 50);
        x.mark(0, 1, 60);
        x.mark(0, 2, 40);
        due("order(1, 2)", x.order(1, 2), 1);
        due("order(2, 1)", x.order(2, 1), -1);
        due("order(2, 2)", x.order(2, 2), 0);
        due("order(1, 3)", x.order(1, 3), -2);
        due("order(3, 1)", x.order(3, 1), -2);
        due("order(3, 3)", x.order(3, 3), -2);
        due("order(-1, 1)", x.order(-1, 1), -2);
        due("order(1, -1)", x.order(1, -1), -2);
        due("order(20, 1)", x.order(20, 1), -2);
        due("order(1, 20)", x.order(1, 20), -2);
        due("order(LOW, HIGH)", x.order(LOW, HIGH), -2);
        x.mark(1, 0, 50);
        x.mark(1, 1, 40);
        x.mark(1, 2, 60);
        due("as much by two judges", x.order(1, 2), 0);
        closeOrder();
    }

    /** Judges with 18, 19 and 20 told ones, so that worths differ by little and by unlike parts. */
    private static void closeOrder() {
        House x = house();
        for (int s = 0; s < 20; s++) {
            x.told(s, 50);
        }
        for (int judge = 0; judge < 3; judge++) {
            for (int s = 0; s < 18 + judge; s++) {
                x.mark(judge, s, 50);
            }
        }
        x.mark(0, 0, 51);
        x.mark(1, 1, 51);
        x.mark(2, 2, 51);
        // Sample 17 has all three judges; sample 18 judges 1 and 2; sample 19 judge 2 alone.
        due("worth(17)", x.worth(17), Math.floorDiv(50000L * 3 * 18 * 19 * 20
                - 1000L * (19 * 20 + 18 * 20 + 18 * 19), 3L * 18 * 19 * 20));
        due("worth(18)", x.worth(18), Math.floorDiv(50000L * 2 * 19 * 20 - 1000L * (20 + 19), 2L * 19 * 20));
        due("worth(19)", x.worth(19), 49950);
        due("order(19, 18)", x.order(19, 18), 1);
        due("order(18, 17)", x.order(18, 17), 1);
        due("order(17, 19)", x.order(17, 19), -1);
    }

    private static void worth() {
        House x = house();
        due("worth(-1)", x.worth(-1), -1000000);
        due("worth(20)", x.worth(20), -1000000);
        due("worth(LOW)", x.worth(LOW), -1000000);
        due("worth(HIGH)", x.worth(HIGH), -1000000);
        due("worth(0)", x.worth(0), -1000000);
        x.mark(0, 0, 11);
        x.mark(0, 1, 10);
        x.mark(0, 2, 10);
        x.told(0, 10);
        x.told(1, 10);
        x.told(2, 10);
        due("11 - 1/3, cut", x.worth(0), 10666);
        due("10 - 1/3, cut", x.worth(1), 9666);
        x.mark(0, 3, 0);
        due("-1/3, cut downwards", x.worth(3), -334);
        x.mark(1, 3, 90);
        due("a judge without told ones does not count", x.worth(3), -334);
        x.mark(1, 0, 10);
        due("a judge with one counts: (-1/3 + 90) / 2", x.worth(3), 44833);
        x.mark(2, 0, 100);
        x.mark(2, 4, 0);
        due("-90", x.worth(4), -90000);
        x.told(0, 100);
        x.mark(3, 0, 0);
        x.mark(3, 5, 100);
        due("100 + 100", x.worth(5), 200000);
        x.mark(4, 0, 100);
        x.mark(4, 6, 7);
        due("7 of judge 4", x.worth(6), 7000);
        due("a told one's worth is what the judges say", x.worth(1), 39666);
    }

    // ---- promises 17 to 19

    private static void span() {
        House x = house();
        int[][] refused = {
            {-1, 0, 100}, {3, 0, 100}, {0, -1, 100}, {0, 0, 101}, {0, 51, 50}, {0, 101, 101}, {0, -1, -1},
            {LOW, 0, 0}, {HIGH, 0, 0}, {0, LOW, HIGH}, {0, HIGH, LOW}, {1, 0, HIGH}, {2, LOW, 0},
        };
        x.lot(1000, 5, 10, 20, 30);
        for (int[] r : refused) {
            due("span of none such", x.span(r[0], r[1], r[2]), false);
        }
        due("best within the spans told at first", x.best(1, 100), 50);
        x.lot(1000, 7, 100, 100, 100);
        due("best at their upper edges", x.best(2, 100), 70);
        x.lot(1000, 8, 0, 0, 0);
        due("best at their lower edges", x.best(4, 100), 80);
        for (int taste = 0; taste < 3; taste++) {
            int its = 10 * (taste + 1);
            due("span", x.span(taste, its, its), true);
            due("best at both edges", x.best(1, 100), 50);
            due("span", x.span(taste, its + 1, 100), true);
            due("best below it", x.best(1, 100), -1);
            due("span refused", x.span(taste, 1, 0), false);
            due("best below it, still", x.best(1, 100), -1);
            due("span", x.span(taste, 0, its - 1), true);
            due("best above it", x.best(1, 100), -1);
            due("span", x.span(taste, 0, 100), true);
        }
        due("span(0, 0, 0)", x.span(0, 0, 0), true);
        due("span(2, 100, 100)", x.span(2, 100, 100), true);
    }

    private static void best() {
        House x = house();
        due("best without lots", x.best(1, 100), -1);
        due("best of no set", x.best(0, 100), -1);
        int[] prices = {700, 600, 500, 400, 300, 200, 100};
        for (int i = 0; i < 7; i++) {
            x.lot(1000, prices[i], 10 * i, 100 - 10 * i, 50);
        }
        due("best of no lot", x.best(0, 100), -1);
        due("best of another lot", x.best(128, 100), -1);
        due("best of another lot, too", x.best(129, 100), -1);
        due("best of 13th lot", x.best(1 << 12, 100), -1);
        due("best(-1)", x.best(-1, 100), -1);
        due("best(LOW)", x.best(LOW, 100), -1);
        due("best(HIGH)", x.best(HIGH, 100), -1);
        due("best of 7 lots", x.best(127, 100), -1);
        due("grams 0", x.best(3, 0), -1);
        due("grams 5", x.best(3, 5), -1);
        due("grams -10", x.best(3, -10), -1);
        due("grams 11", x.best(3, 11), -1);
        due("grams 100010", x.best(3, 100010), -1);
        due("grams HIGH", x.best(3, HIGH), -1);
        due("grams LOW", x.best(3, LOW), -1);
        due("grams 10", x.best(3, 10), 6000);
        due("too little of all", x.best(126, 100000), -1);
        due("all of six", x.best(126, 5000), 2 * (100 + 200 + 300 + 400 + 500));
        due("not enough for a third tenth", x.best(126, 3340), 2 * (100 + 200 + 300 + 400 + 500));
        due("just enough for it", x.best(126, 3330), 3 * (100 + 200 + 300) + 400);
        due("6 lots", x.best(63, 1000), 2000);
        x.span(0, 0, 25);
        // Of lots 0 to 6 taste a is 10 * i: the least price has the sum 250.
        due("within the span", x.best(63, 1000), 4500);
        x.span(1, 0, 74);
        due("none", x.best(63, 1000), -1);
        x.span(1, 75, 75);
        due("just so", x.best(63, 1000), 4500);
        x.span(2, 0, 49);
        due("none", x.best(63, 1000), -1);
        due("stock is not taken", x.part(-1, 5), 1000);
        x.span(0, 0, 100);
        x.span(1, 0, 100);
        x.span(2, 0, 100);
        x.read("drop when 1;");
        x.roast(6, 501);
        x.lot(100000, 77, 100, 100, 100);
        due("the most grams, and tastes of 100", x.best(128, 100000), 770);
        due("what a roast took is not there", x.best(96, 1000), 6 * 200 + 4 * 100);
        x.roast(6, 499);
        due("nothing is left of it", x.best(64, 10), -1);
        due("none of it goes in", x.best(96, 10), 2000);
    }

    private static void dueTenths(House x, String of, int... tenths) {
        for (int lot = 0; lot < tenths.length; lot++) {
            due(of + ": tenths(" + lot + ")", x.tenths(lot), tenths[lot]);
        }
    }

    private static void bestTies() {
        House x = house();
        for (int i = 0; i < 4; i++) {
            x.lot(300, 100, 10 * i, 50, 50);
        }
        due("equal prices", x.best(15, 1000), 1000);
        dueTenths(x, "the most of the least lots", 3, 3, 3, 1);
        due("equal prices", x.best(14, 600), 1000);
        dueTenths(x, "the set alone", 0, 5, 5, 0);
        x.span(0, 15, 15);
        due("with a span", x.best(15, 600), 1000);
        dueTenths(x, "the most of the least lots within the span", 5, 0, 0, 5);
        due("with a span", x.best(15, 1000), 1000);
        dueTenths(x, "the most of the least lots within the span", 3, 2, 2, 3);
    }

    private static void tenths() {
        House x = house();
        due("tenths without lots", x.tenths(0), -1);
        x.lot(1000, 100, 0, 0, 0);
        x.lot(1000, 200, 100, 0, 0);
        due("tenths ahead of any", x.tenths(0), -1);
        due("none found", x.best(3, 100000), -1);
        due("none found yet", x.tenths(0), -1);
        x.span(0, 31, 100);
        due("best(3, 1000)", x.best(3, 1000), 1400);
        dueTenths(x, "found", 6, 4, -1);
        due("tenths(-1)", x.tenths(-1), -1);
        due("tenths(12)", x.tenths(12), -1);
        due("tenths(LOW)", x.tenths(LOW), -1);
        due("tenths(HIGH)", x.tenths(HIGH), -1);
        due("none found", x.best(1, 1000), -1);
        due("other grams", x.best(3, 7), -1);
        dueTenths(x, "the latest that was found", 6, 4);
        x.lot(1000, 1, 0, 0, 0);
        dueTenths(x, "a lot that came later", 6, 4, 0);
        due("best(2, 1000)", x.best(2, 1000), 2000);
        dueTenths(x, "others have none", 0, 10, 0);
    }

    // ---- promises 20 to 24

    private static void send() {
        House x = dropping(1);
        due("send without a bag", x.send(0, 0), false);
        for (int i = 0; i < 5; i++) {
            x.roast(0, 100);
        }
        due("send(-1, 0)", x.send(-1, 0), false);
        due("send(5, 0)", x.send(5, 0), false);
        due("send(0, -1)", x.send(0, -1), false);
        due("send(0, 10)", x.send(0, 10), false);
        due("send(LOW, HIGH)", x.send(LOW, HIGH), false);
        due("send(HIGH, LOW)", x.send(HIGH, LOW), false);
        due("bag(0, 2)", x.bag(0, 2), -1);
        due("send(0, 0)", x.send(0, 0), true);
        due("bag(0, 2)", x.bag(0, 2), 0);
        due("send anew", x.send(0, 1), false);
        due("send there anew", x.send(0, 0), false);
        due("bag(0, 2)", x.bag(0, 2), 0);
        due("send(1, 9)", x.send(1, 9), true);
        due("bag(1, 2)", x.bag(1, 2), 9);
        x.take(2, 95);
        x.take(3, 1);
        due("send of one that is told", x.send(3, 3), false);
        x.blend();
        due("send of an empty one", x.send(2, 3), false);
        due("send of one that is told no more", x.send(3, 3), true);
        due("send of a blend", x.send(5, 3), true);
    }

    private static void keeps() {
        House x = dropping(1);
        x.roast(0, 100);
        x.send(0, 9);
        x.days(1);
        due("keeps(-1, 0)", x.keeps(-1, 0), false);
        due("keeps(10, 0)", x.keeps(10, 0), false);
        due("keeps(9, -1)", x.keeps(9, -1), false);
        due("keeps(9, 1000)", x.keeps(9, 1000), false);
        due("keeps(LOW, HIGH)", x.keeps(LOW, HIGH), false);
        due("keeps(HIGH, LOW)", x.keeps(HIGH, LOW), false);
        due("stale(9)", x.stale(9), 0);
        due("keeps(9, 0)", x.keeps(9, 0), true);
        due("stale(9)", x.stale(9), 1);
        due("keeps(9, 1)", x.keeps(9, 1), true);
        due("stale(9)", x.stale(9), 0);
        due("keeps(0, 999)", x.keeps(0, 999), true);
        for (int i = 0; i < 10; i++) {
            x.days(100);
        }
        x.days(98);
        due("keeps(9, 999)", x.keeps(9, 999), true);
        due("stale(9)", x.stale(9), 0);
        due("keeps(9, 998)", x.keeps(9, 998), true);
        due("stale(9) at 999", x.stale(9), 1);
    }

    private static void stale() {
        House x = dropping(1);
        due("stale(-1)", x.stale(-1), -1);
        due("stale(10)", x.stale(10), -1);
        due("stale(LOW)", x.stale(LOW), -1);
        due("stale(HIGH)", x.stale(HIGH), -1);
        for (int i = 0; i < 4; i++) {
            x.roast(0, 100);
            x.days(10);
        }
        x.send(0, 0);
        x.send(1, 0);
        x.send(3, 9);
        due("40 and 30 days old, kept 30", x.stale(0), 1);
        due("10 days old", x.stale(9), 0);
        x.keeps(0, 29);
        due("kept 29", x.stale(0), 2);
        x.keeps(0, 40);
        due("kept 40", x.stale(0), 0);
        x.days(21);
        due("31 days old", x.stale(9), 1);
        due("a bag in no house", x.stale(1), 0);
        x.take(2, 10);
        x.blend();
        x.send(4, 5);
        due("a blend is as old as its bags", x.stale(5), 1);
    }

    private static void found() {
        House x = dropping(3);
        int[] lots = {1, 0, 1, 1};
        for (int lot : lots) {
            x.roast(lot, 100);
        }
        int[] bagsOfOne = {0, 2, 3, -1};
        for (int i = 0; i < 4; i++) {
            due("found(1, " + i + ")", x.found(1, i), bagsOfOne[i]);
        }
        due("found(0, 0)", x.found(0, 0), 1);
        due("found(0, 1)", x.found(0, 1), -1);
        due("found of one in no bag", x.found(2, 0), -1);
        due("found(1, -1)", x.found(1, -1), -1);
        due("found(1, LOW)", x.found(1, LOW), -1);
        due("found(1, HIGH)", x.found(1, HIGH), -1);
        due("found(-1, 0)", x.found(-1, 0), -1);
        due("found(3, 0)", x.found(3, 0), -1);
        due("found(LOW, 0)", x.found(LOW, 0), -1);
        due("found(HIGH, 0)", x.found(HIGH, 0), -1);
        x.take(2, 95);
        x.take(1, 5);
        x.blend();
        x.send(3, 2);
        int[] now = {0, 3, 4, -1};
        for (int i = 0; i < 4; i++) {
            due("found(1, " + i + ") behind blend()", x.found(1, i), now[i]);
        }
        due("found(0, 1)", x.found(0, 1), 4);
        x.take(0, 1);
        x.blend();
        due("found with one gram", x.found(1, 3), 5);
    }

    private static void led() {
        House x = dropping(2);
        x.roast(0, 100);
        x.roast(1, 200);
        x.roast(0, 300);
        x.take(0, 50);
        x.take(1, 60);
        x.blend();
        due("led of an empty house", x.led(0, 0), 0);
        x.send(3, 9);
        x.send(2, 9);
        x.send(0, 0);
        due("led(0, 9)", x.led(0, 9), 50 + 285);
        due("led(1, 9)", x.led(1, 9), 60);
        due("led(0, 0)", x.led(0, 0), 45);
        due("led(1, 0)", x.led(1, 0), 0);
        due("led(2, 0)", x.led(2, 0), -1);
        due("led(-1, 0)", x.led(-1, 0), -1);
        due("led(0, -1)", x.led(0, -1), -1);
        due("led(0, 10)", x.led(0, 10), -1);
        due("led(LOW, HIGH)", x.led(LOW, HIGH), -1);
        due("led(HIGH, LOW)", x.led(HIGH, LOW), -1);
    }

    private static void fullHouse() {
        House x = dropping(12);
        fillBags(x);
        for (int bag = 0; bag < 60; bag++) {
            due("send", x.send(bag, 9), true);
        }
        x.days(31);
        due("all are stale", x.stale(9), 60);
        due("the last one", x.found(0, 59), 59);
        due("none behind it", x.found(0, 60), -1);
        due("all are led", x.led(0, 9), 60 * 95);
        due("count(6)", x.count(6), 60 * 95);
        due("part(59, 0)", x.part(59, 0), 95);
        due("bag(60, 0) throws", thrownByBag(x, 60, 0), 1);
        due("the last lots", x.best(0xFC0, 1000), 1000);
        dueTenths(x, "of 12 lots", 0, 0, 0, 0, 0, 0, 10, 0, 0, 0, 0, 0);
        due("of lots 0 and 11", x.best(0x801, 100000), 1000);
        dueTenths(x, "of 12 lots", 9, 0, 0, 0, 0, 0, 0, 0, 0, 0, 0, 1);
    }

    // ---- promise 25

    private static void count() {
        House x = dropping(3);
        x.days(4);
        x.roast(0, 100);
        x.roast(1, 200);
        x.take(0, 1);
        x.take(1, 1);
        x.send(1, 0);
        x.tape("abcde");
        int[] due = {3, 2, 4, 1, 5, 2, 95 + 190};
        for (int what = 0; what < 7; what++) {
            due("count(" + what + ")", x.count(what), due[what]);
        }
        x.blend();
        x.send(1, 0);
        due("count(1)", x.count(1), 3);
        due("count(5)", x.count(5), 0);
        due("count(6) with houses", x.count(6), 95 + 190);
        due("count(-1)", x.count(-1), -1);
        due("count(7)", x.count(7), -1);
        due("count(LOW)", x.count(LOW), -1);
        due("count(HIGH)", x.count(HIGH), -1);
    }
}
