import java.util.ArrayList;
import java.util.Arrays;
import java.util.List;
import java.util.NoSuchElementException;
import java.util.stream.Collectors;

/** A RoastHouse that remembers its calls. What it answers behind its 512th call is free, so no test may ask there. */
final class House {
    static final int NONE = RoastHouse.NONE;
    static final int LOW = Integer.MIN_VALUE;
    static final int HIGH = Integer.MAX_VALUE;
    /** What bag() answers here instead of throwing NoSuchElementException. */
    static final int THROWN = -777777777;
    static final int MOST_CALLS = 512;
    private static final int TOLD_CALLS = 6;

    private final RoastHouse inner = new RoastHouse();
    private final List<String> calls = new ArrayList<>();
    private final Tally tally;

    House(Tally tally) {
        this.tally = tally;
    }

    private RoastHouse calling(String name, long... with) {
        if (calls.size() == MOST_CALLS) {
            throw new IllegalStateException("a test asks one object more than 512 times");
        }
        calls.add(name + Arrays.stream(with).mapToObj(Long::toString).collect(Collectors.joining(", ", "(", ")")));
        return inner;
    }

    /** The answer of the latest call is the one that is due. */
    void due(long want, long got) {
        List<String> latest = calls.subList(Math.max(0, calls.size() - TOLD_CALLS), calls.size());
        tally.due(String.join("; ", latest), want, got);
    }

    void due(boolean want, boolean got) {
        due(want ? 1 : 0, got ? 1 : 0);
    }

    int callsSoFar() {
        return calls.size();
    }

    String latestCall() {
        return calls.isEmpty() ? "" : calls.get(calls.size() - 1);
    }

    /** Feeds the signs, 24 in a call; a byte 0 is left out. */
    House tape(String signs) {
        for (int at = 0; at < signs.length(); at += 24) {
            long[] three = new long[3];
            for (int i = 0; i < 24; i++) {
                int sign = at + i < signs.length() ? signs.charAt(at + i) : 0;
                three[i / 8] = three[i / 8] << 8 | sign;
            }
            feed(three[0], three[1], three[2]);
        }
        return this;
    }

    int read(String signs) {
        return tape(signs).text();
    }

    /** Some lots more, of 100,000 grams each. */
    House lots(int n) {
        for (int i = 0; i < n; i++) {
            lot(100000, 100, 50, 50, 50);
        }
        return this;
    }

    /** From here on each roast is dropped at once: 50 of 1,000 grams are lost. */
    House dropping() {
        read("drop when 1;");
        return this;
    }

    // ---- the face of the document

    int lot(int grams, int price, int a, int b, int c) {
        return calling("lot", grams, price, a, b, c).lot(grams, price, a, b, c);
    }

    int days(int n) {
        return calling("days", n).days(n);
    }

    boolean curve(int minute, int warmth) {
        return calling("curve", minute, warmth).curve(minute, warmth);
    }

    int feed(long a, long b, long c) {
        return calling("feed", a, b, c).feed(a, b, c);
    }

    int text() {
        return calling("text").text();
    }

    int roast(int lot, int grams) {
        return calling("roast", lot, grams).roast(lot, grams);
    }

    int roasted(int what) {
        return calling("roasted", what).roasted(what);
    }

    int take(int bag, int grams) {
        return calling("take", bag, grams).take(bag, grams);
    }

    int blend() {
        return calling("blend").blend();
    }

    int bag(int bag, int what) {
        try {
            return calling("bag", bag, what).bag(bag, what);
        } catch (NoSuchElementException e) {
            return THROWN;
        }
    }

    int part(int bag, int lot) {
        return calling("part", bag, lot).part(bag, lot);
    }

    boolean mark(int judge, int sample, int m) {
        return calling("mark", judge, sample, m).mark(judge, sample, m);
    }

    boolean told(int sample, int worth) {
        return calling("told", sample, worth).told(sample, worth);
    }

    int order(int a, int b) {
        return calling("order", a, b).order(a, b);
    }

    int worth(int sample) {
        return calling("worth", sample).worth(sample);
    }

    boolean span(int taste, int from, int to) {
        return calling("span", taste, from, to).span(taste, from, to);
    }

    int best(int set, int grams) {
        return calling("best", set, grams).best(set, grams);
    }

    int tenths(int lot) {
        return calling("tenths", lot).tenths(lot);
    }

    boolean send(int bag, int house) {
        return calling("send", bag, house).send(bag, house);
    }

    boolean keeps(int house, int days) {
        return calling("keeps", house, days).keeps(house, days);
    }

    int stale(int house) {
        return calling("stale", house).stale(house);
    }

    int found(int lot, int i) {
        return calling("found", lot, i).found(lot, i);
    }

    int led(int lot, int house) {
        return calling("led", lot, house).led(lot, house);
    }

    int count(int what) {
        return calling("count", what).count(what);
    }
}
