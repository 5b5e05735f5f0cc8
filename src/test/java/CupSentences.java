/** The sentences on CUPS: marks, told worths, WORTH and ORDER. */
final class CupSentences {
    private static final int NONE = House.NONE;
    private static final int NO_WORTH = -1000000;

    private final Sheet sheet;

    CupSentences(Sheet sheet) {
        this.sheet = sheet;
    }

    void all() {
        sheet.section("Terms 4");
        judgesAndSamples();
        marks();
        toldOnes();
        excess();
        worth();
        order();
    }

    private void judgesAndSamples() {
        sheet.says("CUPS. JUDGES 0 .. 4, SAMPLES 0 .. 19.");
        House x = sheet.house();
        for (int sample : new int[] {0, 1, 18, 19}) {
            x.due(false, x.mark(-1, sample, 50));
            x.due(false, x.mark(5, sample, 50));
            x.due(false, x.told(-1, sample));
            x.due(true, x.told(sample, 40 + sample));
            for (int judge = 0; judge <= 4; judge++) {
                x.due(true, x.mark(judge, sample, 50 + sample));
            }
            x.due(40000 + 1000 * sample, x.worth(sample));
        }
        for (int judge = 0; judge <= 4; judge++) {
            x.due(false, x.mark(judge, -1, 50));
            x.due(false, x.mark(judge, 20, 50));
        }
        x.due(false, x.told(20, 50));
        x.due(NO_WORTH, x.worth(-1));
        x.due(NO_WORTH, x.worth(20));
        x.due(-2, x.order(0, 20));
        x.due(-2, x.order(-1, 19));
        x.due(-1, x.order(0, 19));
    }

    private void marks() {
        sheet.says("A JUDGE gives a SAMPLE a mark (0 .. 100; anew in place of one ahead).");
        House x = sheet.house();
        x.due(true, x.told(0, 50));
        x.due(true, x.mark(0, 0, 50));
        // Judge 0 has O = 0, so the worth of sample 1 is their mark.
        for (int mark : new int[] {0, 1, 99, 100, 0, 100, 37}) {
            x.due(false, x.mark(0, 1, -1));
            x.due(false, x.mark(0, 1, 101));
            x.due(true, x.mark(0, 1, mark));
            x.due(1000 * mark, x.worth(1));
        }
        x.due(false, x.mark(0, 1, -1));
        x.due(false, x.mark(0, 1, 101));
        x.due(37000, x.worth(1));
        // Anew for a TOLD one: O is of the new mark alone.
        x.due(true, x.mark(0, 0, 60));
        x.due(27000, x.worth(1));
        x.due(true, x.mark(0, 0, 50));
        x.due(37000, x.worth(1));
    }

    private void toldOnes() {
        sheet.says("A SAMPLE may be told to be worth so much (0 .. 100): a TOLD one.");
        House x = sheet.house();
        x.due(true, x.mark(0, 0, 50));
        x.due(NO_WORTH, x.worth(0));
        for (int worth : new int[] {0, 1, 99, 100, 0, 64}) {
            x.due(false, x.told(0, -2));
            x.due(false, x.told(0, 101));
            x.due(true, x.told(0, worth));
            x.due(1000 * worth, x.worth(0));
        }
        x.due(false, x.told(0, 101));
        x.due(false, x.told(0, -2));
        x.due(64000, x.worth(0));
        x.due(true, x.told(0, NONE));
        x.due(NO_WORTH, x.worth(0));
    }

    private void excess() {
        sheet.says("Of a JUDGE: n TOLD SAMPLES with a mark by them, O the sum of mark less worth over these.");
        House x = sheet.house();
        x.due(true, x.mark(0, 19, 50));
        // n is 0: no TOLD one; then one is told, but has no mark by them; then both.
        x.due(NO_WORTH, x.worth(19));
        x.due(true, x.told(0, 50));
        x.due(NO_WORTH, x.worth(19));
        x.due(true, x.mark(1, 0, 70));
        x.due(NO_WORTH, x.worth(19));
        x.due(true, x.mark(0, 0, 51));
        x.due(49000, x.worth(19));
        // n 1 to 20, O always 1 of sample 0: 50 - 1 / n.
        for (int sample = 1; sample <= 18; sample++) {
            x.due(true, x.told(sample, 50));
            x.due(true, x.mark(0, sample, 50));
            x.due(50000 - (1000 + sample) / (sample + 1), x.worth(19));
        }
        x.due(true, x.told(19, 50));
        x.due(49950, x.worth(19));
        // The greatest and the least O: 20 * 100 and 20 * -100.
        House y = sheet.house();
        for (int sample = 0; sample < 20; sample++) {
            y.told(sample, 0);
            y.mark(0, sample, 100);
        }
        y.due(0, y.worth(7));
        for (int sample = 0; sample < 20; sample++) {
            y.told(sample, 100);
            y.mark(0, sample, 0);
        }
        y.due(100000, y.worth(7));
    }

    private void worth() {
        sheet.says("WORTH of a SAMPLE: the mean over all JUDGES who marked it, and have n above 0, of mark - O / n, exactly.");
        House x = sheet.house();
        x.told(0, 50);
        x.told(1, 50);
        x.told(2, 50);
        x.due(NO_WORTH, x.worth(5));
        // Judge 0: O / n is 1 / 3; judge 1: 2 / 3; judge 2: 0 over 1; judge 3 has n 0; judge 4 did not mark it.
        int[][] given = {{51, 50, 50}, {51, 51, 50}, {50}, {}, {90, 90, 90}};
        for (int judge = 0; judge < given.length; judge++) {
            for (int sample = 0; sample < given[judge].length; sample++) {
                x.mark(judge, sample, given[judge][sample]);
            }
        }
        x.due(NO_WORTH, x.worth(5));
        x.due(true, x.mark(3, 5, 100));
        x.due(NO_WORTH, x.worth(5));
        x.due(true, x.mark(0, 5, 30));
        x.due(29666, x.worth(5));
        // (30 + 31 - 1) / 2 is 30 exactly.
        x.due(true, x.mark(1, 5, 31));
        x.due(30000, x.worth(5));
        x.due(true, x.mark(2, 5, 30));
        x.due(30000, x.worth(5));
        x.due(true, x.mark(2, 5, 31));
        x.due(30333, x.worth(5));
        x.due(true, x.mark(2, 5, 29));
        x.due(29666, x.worth(5));
        // Judge 4 has O / n = 40: the mean of 60 + 29 + 0 over four is 22.25.
        x.due(true, x.mark(4, 5, 40));
        x.due(22250, x.worth(5));
        fiveJudges();
        leastAndMost();
    }

    /** All five judges, with 19 told ones that no two marked alike: denominators 15 to 19. */
    private void fiveJudges() {
        House x = sheet.house();
        for (int sample = 0; sample < 19; sample++) {
            x.told(sample, 50);
        }
        long top = 0;
        for (int judge = 0; judge < 5; judge++) {
            int n = 15 + judge;
            for (int sample = 0; sample < n; sample++) {
                x.mark(judge, sample, sample == judge ? 51 : 50);
            }
            x.mark(judge, 19, 50);
        }
        // 50 - (1/15 + 1/16 + 1/17 + 1/18 + 1/19) / 5, over 15 * 16 * 17 * 18 * 19.
        long bottom = 15L * 16 * 17 * 18 * 19;
        for (int n = 15; n <= 19; n++) {
            top += bottom / n;
        }
        x.due(Math.floorDiv(1000 * (250 * bottom - top), 5 * bottom), x.worth(19));
        x.due(0, x.order(19, 19));
        // Sample 14 lies within all five judges' marks, and was marked 50 by each: as much.
        x.due(0, x.order(14, 19));
        x.due(1, x.order(0, 19));
        x.due(-1, x.order(19, 4));
        // Sample 18 has the mark of judge 4 alone: 50 - 1 / 19 is more than with the others.
        x.due(1, x.order(18, 19));
    }

    private void leastAndMost() {
        House x = sheet.house();
        x.told(0, 0);
        x.mark(0, 0, 100);
        x.mark(0, 1, 0);
        x.mark(0, 2, 1);
        x.due(-100000, x.worth(1));
        x.due(-99000, x.worth(2));
        x.told(0, 100);
        x.mark(0, 0, 0);
        x.mark(0, 1, 100);
        x.mark(0, 2, 99);
        x.due(200000, x.worth(1));
        x.due(199000, x.worth(2));
    }

    private void order() {
        sheet.says("ORDER of two: which is worth more.");
        House x = sheet.house();
        x.told(0, 50);
        x.mark(0, 0, 50);
        int[] marks = {49, 50, 51};
        for (int i = 0; i < marks.length; i++) {
            x.mark(0, 1 + i, marks[i]);
        }
        for (int a = 1; a <= 3; a++) {
            for (int b = 1; b <= 3; b++) {
                x.due(Integer.compare(a, b), x.order(a, b));
            }
        }
        x.due(0, x.order(0, 2));
        // 1 / 2 and 2 / 4 are as much.
        House y = sheet.house();
        for (int sample = 0; sample < 4; sample++) {
            y.told(sample, 50);
            y.mark(1, sample, sample < 2 ? 51 : 50);
        }
        y.mark(0, 0, 51);
        y.mark(0, 1, 50);
        y.mark(0, 10, 50);
        y.mark(1, 11, 50);
        y.due(0, y.order(10, 11));
        y.due(49500, y.worth(10));
        y.due(49500, y.worth(11));
        littleMore();
    }

    /** Worths of 49.7555 .. and 49.7555 ..: 1 / 24480 between them still orders them. */
    private void littleMore() {
        House x = sheet.house();
        for (int sample = 0; sample < 18; sample++) {
            x.told(sample, 50);
        }
        int[] excess = {4, 5, 3, 4};
        for (int judge = 0; judge < excess.length; judge++) {
            for (int sample = 0; sample < 15 + judge; sample++) {
                x.mark(judge, sample, sample < excess[judge] ? 51 : 50);
            }
        }
        // Sample 18 is 50 - (4/15 + 4/18) / 2, sample 19 is 50 - (5/16 + 3/17) / 2.
        x.mark(0, 18, 50);
        x.mark(3, 18, 50);
        x.mark(1, 19, 50);
        x.mark(2, 19, 50);
        x.due(49755, x.worth(18));
        x.due(49755, x.worth(19));
        x.due(1, x.order(18, 19));
        x.due(-1, x.order(19, 18));
        x.due(0, x.order(18, 18));
    }
}
