/** States of a house from which calls are refused; each leaves room for many calls more. */
final class Scenes {
    /** Builds a state in a new house. */
    interface Scene {
        void build(House x);
    }

    static final String TAPE = "drop when minute = 9";

    private Scenes() {
    }

    static void empty(House x) {
        // A new house is its own scene.
    }

    /** 7 lots and 14 bags, something of all that a house can hold, two bags told for blend(), a line half fed. */
    static void busy(House x) {
        busyWithoutTape(x);
        x.tape(TAPE);
    }

    static void busyWithoutTape(House x) {
        busyNothingTold(x);
        x.take(6, 5);
        x.take(7, 6);
    }

    static void busyNothingTold(House x) {
        int[][] lots = {{5000, 300, 20, 10, 50}, {4000, 200, 60, 90, 50}, {3000, 250, 40, 50, 50}, {2000, 100, 61, 50, 50},
            {600, 150, 19, 50, 50}, {50, 120, 40, 50, 50}, {9000, 400, 40, 10, 49}};
        for (int[] lot : lots) {
            x.lot(lot[0], lot[1], lot[2], lot[3], lot[4]);
        }
        for (int minute = 0; minute < 20; minute++) {
            x.curve(minute, toldWarmth(minute));
        }
        x.read("fire 7 when minute = 2; drum 1 when told < 150; drop when minute = 11;");
        for (int bag = 0; bag < 12; bag++) {
            x.roast(bag % 7, 40 + bag);
            x.days(1);
        }
        blendsAndHouses(x);
        cups(x);
        x.span(0, 20, 60);
        x.span(1, 10, 90);
        x.span(2, 50, 50);
        x.best(0b1111, 1000);
    }

    /** Busy, and NOW is 972. */
    static void late(House x) {
        busy(x);
        for (int i = 0; i < 9; i++) {
            x.days(100);
        }
        x.days(60);
    }

    static int toldWarmth(int minute) {
        return 100 + 7 * minute;
    }

    /** Bag 12 is of bags 0 and 1, bag 13 all of bag 2. */
    private static void blendsAndHouses(House x) {
        x.take(0, 10);
        x.take(1, 20);
        x.blend();
        x.take(2, x.bag(2, 0));
        x.blend();
        x.send(3, 0);
        x.send(4, 1);
        x.send(5, 9);
        x.send(12, 2);
        x.send(13, 3);
        for (int house = 0; house <= 9; house++) {
            x.keeps(house, 3 + 2 * house);
        }
    }

    private static void cups(House x) {
        for (int judge = 0; judge < 4; judge++) {
            for (int sample = 0; sample < 6 + judge; sample++) {
                x.mark(judge, sample, 30 + 7 * judge + 5 * sample);
            }
        }
        x.told(0, 40);
        x.told(3, 60);
        x.told(7, 55);
    }

    /** As much as can be: 12 lots, 60 bags, NOW 999, 600 signs; two bags are told, one is empty, some went. */
    static void full(House x) {
        for (int lot = 0; lot < 12; lot++) {
            x.lot(1000 + lot, 100 + lot, 50, 50, 50);
        }
        x.curve(0, 150);
        x.read("drop when minute = 3;");
        for (int bag = 0; bag < 58; bag++) {
            x.roast(bag % 12, 100 + bag);
        }
        x.take(0, x.bag(0, 0));
        x.take(1, 10);
        x.blend();
        x.take(2, 7);
        x.take(58, 20);
        x.blend();
        x.send(3, 0);
        x.send(58, 4);
        x.send(59, 9);
        for (int i = 0; i < 9; i++) {
            x.days(100);
        }
        x.days(99);
        x.keeps(0, 999);
        x.told(0, 50);
        x.mark(0, 0, 60);
        x.mark(0, 1, 70);
        x.best(0b111, 1000);
        x.take(4, 3);
        x.take(5, 4);
        x.tape(" ".repeat(600));
    }
}
