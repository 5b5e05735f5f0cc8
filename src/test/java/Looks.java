import java.util.ArrayList;
import java.util.List;

/** What other calls show of a house, now and, by calls that change it, later: each look is for a house of its own. */
final class Looks {
    /** One look at a house: all the answers that it got. */
    interface Look {
        void take(House x, List<Long> seen);
    }

    private Looks() {
    }

    static List<Look> all() {
        List<Look> looks = new ArrayList<>(List.of(Looks::numbers, Looks::bags, Looks::bagsOfLots, Looks::texts,
                Looks::curve, Looks::marks, Looks::toldOnes, Looks::blends, Looks::told, Looks::spans, Looks::kept,
                Looks::sent, Looks::next));
        for (int lot = 0; lot < 12; lot += 4) {
            int first = lot;
            looks.add((x, seen) -> parts(x, seen, first));
        }
        return looks;
    }

    private static void see(List<Long> seen, long answer) {
        seen.add(answer);
    }

    private static void see(List<Long> seen, boolean answer) {
        seen.add(answer ? 1L : 0L);
    }

    private static void numbers(House x, List<Long> seen) {
        for (int what = 0; what <= 6; what++) {
            see(seen, x.count(what));
        }
        for (int what = 0; what <= 4; what++) {
            see(seen, x.roasted(what));
        }
        for (int lot = 0; lot < 12; lot++) {
            see(seen, x.tenths(lot));
        }
        for (int house = 0; house <= 9; house++) {
            see(seen, x.stale(house));
        }
        for (int sample = 0; sample < 20; sample++) {
            see(seen, x.worth(sample));
            for (int other = 0; other < sample; other++) {
                see(seen, x.order(sample, other));
            }
        }
    }

    private static void bags(House x, List<Long> seen) {
        for (int bag = 0; bag < 60; bag++) {
            for (int what = 0; what <= 3; what++) {
                see(seen, x.bag(bag, what));
            }
        }
    }

    private static void parts(House x, List<Long> seen, int firstLot) {
        for (int lot = firstLot; lot < firstLot + 4; lot++) {
            for (int bag = -1; bag < 60; bag++) {
                see(seen, x.part(bag, lot));
            }
        }
    }

    private static void bagsOfLots(House x, List<Long> seen) {
        for (int lot = 0; lot < 12; lot++) {
            for (int house = 0; house <= 9; house++) {
                see(seen, x.led(lot, house));
            }
            for (int i = 0; i < 7; i++) {
                see(seen, x.found(lot, i));
            }
        }
    }

    private static void roastAndTell(House x, List<Long> seen) {
        see(seen, x.roast(0, 200));
        for (int what = 0; what <= 4; what++) {
            see(seen, x.roasted(what));
        }
    }

    /** By the text there is, and by the one that the tape makes when its line is ended. */
    private static void texts(House x, List<Long> seen) {
        see(seen, x.lot(1000, 1, 1, 1, 1));
        roastAndTell(x, seen);
        see(seen, x.feed(0, 0, ';'));
        see(seen, x.text());
        see(seen, x.count(3));
        roastAndTell(x, seen);
        see(seen, x.text());
        see(seen, x.count(3));
        roastAndTell(x, seen);
    }

    private static void curve(House x, List<Long> seen) {
        see(seen, x.text());
        see(seen, x.lot(100000, 1, 1, 1, 1));
        for (int minute = 0; minute < 20; minute++) {
            for (int warmth : new int[] {200, Scenes.toldWarmth(minute)}) {
                see(seen, x.read("drop when told=" + warmth + " and minute=" + minute + ";"));
                see(seen, x.roast(0, 10));
                see(seen, x.roasted(0));
            }
        }
    }

    private static void marks(House x, List<Long> seen) {
        for (int sample = 0; sample < 20; sample++) {
            see(seen, x.told(sample, sample));
            see(seen, x.worth(sample));
        }
        for (int sample = 0; sample < 20; sample++) {
            see(seen, x.worth(sample));
        }
    }

    /** The mark of a judge who gave none so far counts just where a sample is told. */
    private static void toldOnes(House x, List<Long> seen) {
        for (int sample = 0; sample < 20; sample++) {
            see(seen, x.mark(4, sample, 90));
            see(seen, x.worth(sample));
            see(seen, x.worth(0));
        }
    }

    private static void blends(House x, List<Long> seen) {
        int blend = x.blend();
        see(seen, blend);
        for (int what = 0; what <= 3; what++) {
            see(seen, x.bag(blend, what));
        }
        for (int lot = 0; lot < 12; lot++) {
            see(seen, x.part(blend, lot));
        }
        for (int bag = 0; bag < 60; bag++) {
            see(seen, x.bag(bag, 0));
        }
        see(seen, x.blend());
        see(seen, x.count(5));
    }

    private static void told(House x, List<Long> seen) {
        for (int bag = 0; bag < 60; bag++) {
            see(seen, x.take(bag, 1));
        }
        see(seen, x.count(5));
    }

    private static void spans(House x, List<Long> seen) {
        for (int set = 0; set < 128; set++) {
            see(seen, x.best(set, 100));
        }
        for (int lot = 0; lot < 12; lot++) {
            see(seen, x.tenths(lot));
        }
        see(seen, x.best(0b1111, 10000));
        see(seen, x.best(0b111, 1000));
    }

    private static void kept(House x, List<Long> seen) {
        for (int day = 0; day < 26; day++) {
            see(seen, x.days(1));
            for (int house = 0; house <= 9; house++) {
                see(seen, x.stale(house));
            }
        }
    }

    private static void sent(House x, List<Long> seen) {
        for (int bag = 0; bag < 60; bag++) {
            see(seen, x.send(bag, 8));
            see(seen, x.bag(bag, 2));
        }
        for (int lot = 0; lot < 12; lot++) {
            see(seen, x.led(lot, 8));
        }
    }

    private static void next(House x, List<Long> seen) {
        see(seen, x.days(0));
        see(seen, x.days(1));
        see(seen, x.feed(0, 0, ' '));
        see(seen, x.lot(7, 7, 7, 7, 7));
        see(seen, x.part(RoastHouse.NONE, 7));
        see(seen, x.roast(0, 300));
        see(seen, x.blend());
        see(seen, x.count(6));
    }
}
