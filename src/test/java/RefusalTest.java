import java.util.ArrayList;
import java.util.HashMap;
import java.util.List;
import java.util.Map;

/** Behind each refused call all that other calls show, now and later, is as if the call had not been made. */
public final class RefusalTest {
    /** A call that is refused, and its answer. */
    private interface Call {
        long ask(House x);
    }

    private static final int NONE = House.NONE;
    private static final int LOW = House.LOW;
    private static final int HIGH = House.HIGH;
    private static final int[] OFF = {LOW, -1, HIGH};

    private final Tally tally = new Tally();
    private final List<Looks.Look> looks = Looks.all();
    private final Map<Scenes.Scene, List<List<Long>>> seenBefore = new HashMap<>();
    private final Scenes.Scene empty = Scenes::empty;
    private final Scenes.Scene busy = Scenes::busy;
    private final Scenes.Scene untaped = Scenes::busyWithoutTape;
    private final Scenes.Scene untold = Scenes::busyNothingTold;
    private final Scenes.Scene late = Scenes::late;
    private final Scenes.Scene full = Scenes::full;

    private RefusalTest() {
    }

    public static void main(String[] args) {
        RefusalTest test = new RefusalTest();
        test.scenesAreAsMeant();
        test.lots();
        test.daysAndCurves();
        test.feeds();
        test.faults();
        test.roasts();
        test.takes();
        test.blends();
        test.questions();
        test.cups();
        test.spans();
        test.bests();
        test.houses();
        test.tally.end();
    }

    // ---- the comparing

    private List<Long> seenBy(Looks.Look look, House x) {
        List<Long> seen = new ArrayList<>();
        look.take(x, seen);
        return seen;
    }

    private List<List<Long>> before(Scenes.Scene scene) {
        return seenBefore.computeIfAbsent(scene, s -> {
            List<List<Long>> all = new ArrayList<>();
            for (Looks.Look look : looks) {
                House x = new House(tally);
                s.build(x);
                all.add(seenBy(look, x));
            }
            return all;
        });
    }

    private void refused(Scenes.Scene scene, long due, Call call) {
        refused(scene, scene, due, call);
    }

    /** The call, made in one scene, leaves what the other scene is. */
    private void refused(Scenes.Scene scene, Scenes.Scene as, long due, Call call) {
        List<List<Long>> want = before(as);
        for (int i = 0; i < looks.size(); i++) {
            House x = new House(tally);
            scene.build(x);
            x.due(due, call.ask(x));
            String latest = x.latestCall();
            List<Long> seen = seenBy(looks.get(i), x);
            for (int k = 0; k < seen.size(); k++) {
                tally.due("behind " + latest + " answer " + k + " of look " + i, want.get(i).get(k), seen.get(k));
            }
        }
    }

    private static long of(boolean answer) {
        return answer ? 1 : 0;
    }

    // ---- the scenes

    private void scenesAreAsMeant() {
        tally.about("the scenes");
        House x = new House(tally);
        busy.build(x);
        int[] counts = {7, 14, 12, 3, Scenes.TAPE.length(), 2};
        for (int what = 0; what < counts.length; what++) {
            x.due(counts[what], x.count(what));
        }
        x.due(0, x.bag(2, 0));
        x.due(9, x.bag(5, 2));
        x.due(2, x.bag(12, 3));
        x.due(5, x.part(NONE, 5));
        x.due(11, x.roasted(0));
        x.due(10, x.tenths(0) + x.tenths(1) + x.tenths(2) + x.tenths(3));
        House z = new House(tally);
        late.build(z);
        z.due(972, z.count(2));
        House y = new House(tally);
        full.build(y);
        int[] most = {12, 60, 999, 1, 600, 2};
        for (int what = 0; what < most.length; what++) {
            y.due(most[what], y.count(what));
        }
        y.due(0, y.bag(0, 0));
        y.due(9, y.bag(59, 2));
    }

    // ---- the refused calls

    private void lots() {
        tally.about("lot");
        int[] least = {1, 1, 0, 0, 0};
        int[] most = {100000, 10000, 100, 100, 100};
        for (int i = 0; i < 5; i++) {
            for (int other : new int[] {LOW, least[i] - 1, most[i] + 1, HIGH}) {
                int[] n = {5, 5, 5, 5, 5};
                n[i] = other;
                refused(busy, NONE, x -> x.lot(n[0], n[1], n[2], n[3], n[4]));
            }
        }
        refused(empty, NONE, x -> x.lot(0, 0, 0, 0, 0));
        refused(full, NONE, x -> x.lot(5, 5, 5, 5, 5));
    }

    private void daysAndCurves() {
        tally.about("days");
        for (int n : new int[] {LOW, -1, 101, HIGH}) {
            refused(busy, NONE, x -> x.days(n));
        }
        // 27 DAYS more are 999.
        for (int n : new int[] {28, 29, 100}) {
            refused(late, NONE, x -> x.days(n));
        }
        for (int n : new int[] {1, 100, 101}) {
            refused(full, NONE, x -> x.days(n));
        }
        tally.about("curve");
        for (int minute : new int[] {LOW, -1, 20, HIGH}) {
            refused(busy, 0, x -> of(x.curve(minute, 300)));
            refused(empty, 0, x -> of(x.curve(minute, 300)));
        }
        for (int warmth : new int[] {LOW, -1, 401, HIGH}) {
            for (int minute : new int[] {0, 10, 19}) {
                refused(busy, 0, x -> of(x.curve(minute, warmth)));
            }
        }
    }

    private void feeds() {
        tally.about("feed");
        int length = Scenes.TAPE.length();
        refused(busy, length, x -> x.feed(0, 0, 0));
        refused(busy, length, x -> x.feed(-1, -1, -1));
        refused(busy, length, x -> x.feed(0x090B1F7F80FF00L, 0x8A, 0xA0L << 56));
        refused(empty, 0, x -> x.feed(0x1F, 0x7F, 0x80));
        refused(full, 600, x -> x.feed(0x64726F7020776865L, 0x6E20313B00000000L, 0));
        refused(full, 600, x -> x.feed(0, 0, '?'));
    }

    /** A text with a fault takes the tape, and the text that was there stays. */
    private void faults() {
        tally.about("text");
        String[] wrong = {"?", "drop when 1", "drop when 1; drop", "fire 10 when 1;", "drop when (((((1))))); ",
            "drop when 1;".repeat(17)};
        int[] faults = {1, 1 + 16 * 11, 1 + 16 * 17, 4 + 16 * 5, 5 + 16 * 15, 5 + 16 * 192};
        for (int i = 0; i < wrong.length; i++) {
            String signs = wrong[i];
            Scenes.Scene withTape = x -> {
                untaped.build(x);
                x.tape(signs);
            };
            refused(withTape, untaped, faults[i], House::text);
            refused(x -> x.tape(signs), empty, faults[i], House::text);
        }
        refused(busy, untaped, 1 + 16 * Scenes.TAPE.length(), House::text);
    }

    private void roasts() {
        tally.about("roast");
        for (int lot : new int[] {LOW, -1, 7, 12, HIGH}) {
            refused(busy, -1, x -> x.roast(lot, 1));
        }
        for (int grams : new int[] {LOW, -1, 0, 20001, HIGH}) {
            refused(busy, -1, x -> x.roast(6, grams));
        }
        // 5 grams are left of lot 5.
        refused(busy, -1, x -> x.roast(5, 6));
        refused(empty, -1, x -> x.roast(0, 1));
        refused(full, -1, x -> x.roast(0, 100));
        refused(full, -1, x -> x.roast(11, 1));
    }

    private void takes() {
        tally.about("take");
        for (int bag : new int[] {LOW, -1, 14, 60, HIGH}) {
            refused(busy, NONE, x -> x.take(bag, 1));
        }
        for (int grams : new int[] {LOW, -1, 0, 1000, HIGH}) {
            refused(busy, NONE, x -> x.take(8, grams));
        }
        refused(busy, NONE, x -> x.take(8, 1 + x.bag(8, 0)));
        // Bags 6 and 7 are told, 3 and 13 went, 2 is empty.
        for (int bag : new int[] {6, 7, 3, 13, 2}) {
            refused(busy, NONE, x -> x.take(bag, 1));
        }
        refused(empty, NONE, x -> x.take(0, 1));
        refused(full, NONE, x -> x.take(60, 1));
    }

    private void blends() {
        tally.about("blend");
        refused(empty, NONE, House::blend);
        refused(untold, NONE, House::blend);
        refused(full, NONE, House::blend);
    }

    private void questions() {
        tally.about("roasted, bag, part, tenths, stale, found, led, count");
        refused(empty, NONE, x -> x.roasted(0));
        refused(empty, NONE, x -> x.tenths(0));
        refused(busy, NONE, x -> x.roasted(5));
        refused(busy, NONE, x -> x.count(7));
        refused(busy, NONE, x -> x.part(14, 0));
        refused(busy, NONE, x -> x.part(-2, 0));
        refused(busy, NONE, x -> x.part(0, 7));
        refused(busy, NONE, x -> x.tenths(7));
        refused(busy, NONE, x -> x.stale(10));
        refused(busy, NONE, x -> x.found(7, 0));
        refused(busy, NONE, x -> x.found(0, 14));
        refused(busy, NONE, x -> x.led(7, 0));
        refused(busy, NONE, x -> x.led(0, 10));
        refused(busy, House.THROWN, x -> x.bag(14, 0));
        refused(busy, House.THROWN, x -> x.bag(0, 4));
        refused(full, House.THROWN, x -> x.bag(60, 0));
        for (int off : OFF) {
            refused(busy, NONE, x -> x.roasted(off));
            refused(busy, NONE, x -> x.count(off));
            refused(busy, NONE, x -> x.part(0, off));
            refused(busy, NONE, x -> x.tenths(off));
            refused(busy, NONE, x -> x.stale(off));
            refused(busy, NONE, x -> x.found(off, 0));
            refused(busy, NONE, x -> x.found(0, off));
            refused(busy, NONE, x -> x.led(off, 0));
            refused(busy, NONE, x -> x.led(0, off));
            refused(busy, House.THROWN, x -> x.bag(off, 0));
            refused(busy, House.THROWN, x -> x.bag(0, off));
        }
    }

    private void cups() {
        tally.about("mark");
        for (int judge : new int[] {LOW, -1, 5, HIGH}) {
            refused(busy, 0, x -> of(x.mark(judge, 0, 99)));
        }
        for (int sample : new int[] {LOW, -1, 20, HIGH}) {
            refused(busy, 0, x -> of(x.mark(0, sample, 99)));
            refused(busy, 0, x -> of(x.mark(4, sample, 99)));
            tally.about("told");
            refused(busy, 0, x -> of(x.told(sample, 99)));
            refused(busy, 0, x -> of(x.told(sample, NONE)));
            tally.about("worth, order");
            refused(busy, -1000000, x -> x.worth(sample));
            refused(busy, -2, x -> x.order(sample, 0));
            refused(busy, -2, x -> x.order(0, sample));
        }
        tally.about("mark, told");
        for (int other : new int[] {LOW, -2, 101, HIGH}) {
            refused(busy, 0, x -> of(x.mark(0, 0, other)));
            refused(busy, 0, x -> of(x.mark(4, 19, other)));
            refused(busy, 0, x -> of(x.told(0, other)));
            refused(busy, 0, x -> of(x.told(19, other)));
        }
        refused(busy, 0, x -> of(x.mark(0, 0, -1)));
        // Sample 19 has no mark.
        refused(busy, -1000000, x -> x.worth(19));
        refused(busy, -2, x -> x.order(0, 19));
        refused(busy, -2, x -> x.order(19, 0));
    }

    private void spans() {
        tally.about("span");
        for (int taste : new int[] {LOW, -1, 3, HIGH}) {
            refused(busy, 0, x -> of(x.span(taste, 45, 45)));
        }
        int[][] others = {{-1, 45}, {LOW, 45}, {45, 101}, {45, HIGH}, {46, 45}, {100, 0}, {101, 101}, {-1, -1}};
        for (int taste = 0; taste <= 2; taste++) {
            int of = taste;
            for (int[] other : others) {
                refused(busy, 0, x -> of(x.span(of, other[0], other[1])));
            }
        }
        refused(empty, 0, x -> of(x.span(0, 1, 0)));
    }

    private void bests() {
        tally.about("best");
        // None within the spans, too little stock, other LOTS, no LOT, more than 6, other grams.
        refused(busy, NONE, x -> x.best(0b1000, 100));
        refused(busy, NONE, x -> x.best(0b100000, 100));
        refused(busy, NONE, x -> x.best(0b1000000, 100));
        refused(busy, NONE, x -> x.best(0b1111, 100000));
        for (int set : new int[] {LOW, -1, 0, 1 << 7, 1 << 7 | 1, 127, HIGH}) {
            refused(busy, NONE, x -> x.best(set, 100));
        }
        for (int grams : new int[] {LOW, -10, 0, 5, 9, 11, 99, 100001, 100010, HIGH}) {
            refused(busy, NONE, x -> x.best(0b1, grams));
        }
        refused(empty, NONE, x -> x.best(1, 10));
        refused(full, NONE, x -> x.best(0b1111111, 10));
    }

    private void houses() {
        tally.about("send");
        for (int bag : new int[] {LOW, -1, 14, 60, HIGH}) {
            refused(busy, 0, x -> of(x.send(bag, 8)));
        }
        for (int house : new int[] {LOW, -1, 10, HIGH}) {
            refused(busy, 0, x -> of(x.send(8, house)));
            tally.about("keeps");
            refused(busy, 0, x -> of(x.keeps(house, 5)));
        }
        for (int days : new int[] {LOW, -1, 1000, HIGH}) {
            refused(busy, 0, x -> of(x.keeps(0, days)));
            refused(busy, 0, x -> of(x.keeps(9, days)));
        }
        tally.about("send");
        // Bags 3 and 13 went, 6 and 7 are told, 2 is empty.
        for (int bag : new int[] {3, 13, 6, 7, 2}) {
            refused(busy, 0, x -> of(x.send(bag, 0)));
            refused(busy, 0, x -> of(x.send(bag, 8)));
        }
        refused(empty, 0, x -> of(x.send(0, 0)));
        refused(full, 0, x -> of(x.send(60, 0)));
        refused(full, 0, x -> of(x.send(59, 9)));
        refused(full, 0, x -> of(x.send(0, 9)));
    }
}
