import java.math.BigInteger;
import java.util.ArrayList;
import java.util.Arrays;
import java.util.List;
import java.util.NoSuchElementException;
import java.util.Random;
import java.util.TreeMap;

/** Runs of calls with fixed seeds: the class against a slow model that is written another way. */
public final class ModelTest {
    private static final int RUNS = 2000;
    // What an object answers behind its 512th call is free; a step that feeds a text makes the most calls.
    private static final int MOST_CALLS = 512;
    private static final int MOST_SIGNS = 720;
    private static final int MOST_CALLS_OF_A_STEP = MOST_SIGNS / 24 + 1;
    private static final String[] NAMES = {"minute", "warmth", "told", "rise", "fire", "drum", "grams"};
    private static final int[] ODD = {Integer.MIN_VALUE, -1000, -2, -1, 0, 1, 12, 20, 60, 101, 1000, Integer.MAX_VALUE};

    private final Random random;
    private final RoastHouse real = new RoastHouse();
    private final Model model = new Model();
    private final List<String> calls = new ArrayList<>();

    private ModelTest(long seed) {
        random = new Random(seed);
    }

    public static void main(String[] args) {
        int wrong = 0;
        for (int seed = 0; seed < RUNS && wrong < 5; seed++) {
            if (!new ModelTest(seed).run(seed)) {
                wrong++;
            }
        }
        System.out.println(RUNS + " runs against the model, " + wrong + " wrong");
        if (wrong != 0) {
            System.exit(1);
        }
    }

    private boolean run(int seed) {
        // Some runs lean on one part of the house, so that its state gets far.
        int lean = seed % 6;
        for (int i = 0; i < MOST_CALLS && calls.size() <= MOST_CALLS - MOST_CALLS_OF_A_STEP; i++) {
            int kind = random.nextInt(3) == 0 ? random.nextInt(24) : leaning(lean);
            if (!step(kind)) {
                System.out.println("seed " + seed + ", call " + i + ": " + calls.get(calls.size() - 1));
                return false;
            }
        }
        return true;
    }

    private int leaning(int lean) {
        int[][] kinds = {
            {0, 5, 7, 8, 8, 8, 9, 10, 11, 21, 22},
            {12, 12, 12, 13, 14, 15},
            {0, 16, 17, 17, 18, 5},
            {4, 5, 6, 6, 3},
            {0, 5, 5, 19, 20, 21, 22, 23, 1},
            {4, 23},
        };
        int[] of = kinds[lean];
        return of[random.nextInt(of.length)];
    }

    private boolean same(String call, long got, long want) {
        calls.add(call + " answered " + got + ", due is " + want);
        return got == want;
    }

    private boolean same(String call, boolean got, boolean want) {
        return same(call, got ? 1 : 0, want ? 1 : 0);
    }

    /** Mostly within 0 .. most, now and then just beyond it or far off. */
    private int near(int most) {
        int r = random.nextInt(30);
        if (r == 0) {
            return ODD[random.nextInt(ODD.length)];
        }
        if (r == 1) {
            return most + 1;
        }
        return r == 2 ? -1 : random.nextInt(most + 1);
    }

    private boolean step(int kind) {
        int a = near(11);
        int b = near(11);
        switch (kind) {
            case 0: {
                int[] p = {near(random.nextBoolean() ? 100000 : 3000), near(random.nextBoolean() ? 10000 : 5),
                    near(100), near(100), near(100)};
                return same("lot" + Arrays.toString(p), real.lot(p[0], p[1], p[2], p[3], p[4]), model.lot(p));
            }
            case 1:
                a = near(random.nextInt(4) == 0 ? 100 : 12);
                return same("days(" + a + ")", real.days(a), model.days(a));
            case 2:
            case 3:
                a = near(19);
                b = near(400);
                return same("curve(" + a + ", " + b + ")", real.curve(a, b), model.curve(a, b));
            case 4:
                return text();
            case 5: {
                a = near(Math.max(0, model.lots.size() - 1));
                b = near(random.nextInt(3) == 0 ? 3 : random.nextBoolean() ? 20000 : 400);
                return same("roast(" + a + ", " + b + ")", real.roast(a, b), model.roast(a, b));
            }
            case 6:
                a = near(4);
                return same("roasted(" + a + ")", real.roasted(a), model.roasted(a));
            case 7:
                return same("blend()", real.blend(), model.blend());
            case 8: {
                a = near(Math.max(0, model.bags.size() - 1));
                int g = model.hasBag(a) ? model.bags.get(a).grams : 5;
                b = random.nextInt(3) == 0 ? g : near(g);
                return same("take(" + a + ", " + b + ")", real.take(a, b), model.take(a, b));
            }
            case 9:
            case 10:
                a = near(Math.max(0, model.bags.size() - 1));
                b = near(3);
                return same("bag(" + a + ", " + b + ")", bagOf(a, b), model.bag(a, b));
            case 11:
                a = near(Math.max(0, model.bags.size() - 1));
                return same("part(" + a + ", " + b + ")", real.part(a, b), model.part(a, b));
            default:
                return stepOfCupsAndBlends(kind, a, b);
        }
    }

    private boolean stepOfCupsAndBlends(int kind, int a, int b) {
        switch (kind) {
            case 12: {
                int judge = near(4);
                int sample = near(19);
                int m = near(100);
                return same("mark(" + judge + ", " + sample + ", " + m + ")",
                        real.mark(judge, sample, m), model.mark(judge, sample, m));
            }
            case 13: {
                int sample = near(19);
                int w = near(100);
                return same("told(" + sample + ", " + w + ")", real.told(sample, w), model.told(sample, w));
            }
            case 14: {
                int s = near(19);
                int t = near(19);
                return same("order(" + s + ", " + t + ")", real.order(s, t), model.order(s, t));
            }
            case 15: {
                int s = near(19);
                return same("worth(" + s + ")", real.worth(s), model.worth(s));
            }
            case 16: {
                int taste = near(2);
                int from = random.nextBoolean() ? near(30) : near(100);
                int to = random.nextBoolean() ? 100 - near(30) : near(100);
                return same("span(" + taste + ", " + from + ", " + to + ")",
                        real.span(taste, from, to), model.span(taste, from, to));
            }
            case 17: {
                int set = random.nextInt(1 << Math.max(1, model.lots.size()));
                if (random.nextInt(3) > 0) {
                    set &= random.nextInt(1 << 12);
                }
                set = random.nextInt(25) == 0 ? near(1 << 12) : set;
                int grams = random.nextInt(20) == 0 ? near(100000) : 10 * (1 + random.nextInt(random.nextBoolean() ? 10000 : 300));
                return same("best(" + set + ", " + grams + ")", real.best(set, grams), model.best(set, grams));
            }
            case 18:
                return same("tenths(" + a + ")", real.tenths(a), model.tenths(a));
            default:
                return stepOfHouses(kind, a, b);
        }
    }

    private boolean stepOfHouses(int kind, int a, int b) {
        int house = near(9);
        switch (kind) {
            case 19: {
                int bag = near(Math.max(0, model.bags.size() - 1));
                return random.nextBoolean()
                        || same("send(" + bag + ", " + house + ")", real.send(bag, house), model.send(bag, house));
            }
            case 20: {
                int n = random.nextBoolean() ? near(40) : near(999);
                return same("keeps(" + house + ", " + n + ")", real.keeps(house, n), model.keeps(house, n));
            }
            case 21:
                return same("found(" + a + ", " + b + ")", real.found(a, b), model.found(a, b));
            case 22:
                return same("led(" + a + ", " + house + ")", real.led(a, house), model.led(a, house))
                        && same("stale(" + house + ")", real.stale(house), model.stale(house));
            default:
                int what = near(6);
                return same("count(" + what + ")", real.count(what), model.count(what));
        }
    }

    private long bagOf(int bag, int what) {
        try {
            return real.bag(bag, what);
        } catch (NoSuchElementException e) {
            return Model.THROWN;
        }
    }

    // ---- texts

    private boolean text() {
        String made = random.nextInt(40) == 0 ? anySigns() : texts();
        String signs = made.substring(0, Math.min(MOST_SIGNS, made.length()));
        for (int at = 0; at < signs.length(); at += 24) {
            long[] three = new long[3];
            for (int i = 0; i < 24; i++) {
                int sign = at + i < signs.length() ? signs.charAt(at + i) : random.nextInt(10);
                three[i / 8] = three[i / 8] << 8 | sign;
            }
            if (!same("feed of " + signs, real.feed(three[0], three[1], three[2]), model.feed(three))) {
                return false;
            }
        }
        return random.nextInt(15) == 0 || same("text() of " + model.tape, real.text(), model.text());
    }

    private String anySigns() {
        StringBuilder all = new StringBuilder();
        int n = random.nextInt(100);
        for (int i = 0; i < n; i++) {
            all.append((char) random.nextInt(256));
        }
        return all.toString();
    }

    private String texts() {
        StringBuilder all = new StringBuilder();
        int lines = random.nextInt(20) == 0 ? 15 + random.nextInt(4) : random.nextInt(6);
        for (int i = 0; i < lines; i++) {
            all.append(line(lines > 10));
        }
        if (random.nextInt(3) == 0) {
            spoil(all);
        }
        return all.toString();
    }

    private String line(boolean small) {
        String head = random.nextInt(3) == 0 ? "drop" : (random.nextBoolean() ? "fire " : "drum") + random.nextInt(10);
        return head + " when " + (small ? part(9) : tests(0)) + (random.nextBoolean() ? ";" : " ;\n");
    }

    private String tests(int depth) {
        StringBuilder all = new StringBuilder(test(depth));
        while (random.nextInt(4) == 0) {
            all.append(" and ").append(test(depth));
        }
        return all.toString();
    }

    private String test(int depth) {
        String left = sum(depth);
        return random.nextInt(3) > 0 ? left + (random.nextBoolean() ? "<" : " = ") + sum(depth) : left;
    }

    private String sum(int depth) {
        StringBuilder all = new StringBuilder(part(depth));
        while (random.nextInt(3) == 0) {
            all.append(random.nextBoolean() ? "+" : " - ").append(part(depth));
        }
        return all.toString();
    }

    private String part(int depth) {
        int r = random.nextInt(10);
        if (r < 3 && depth < 7) {
            return "(" + tests(depth + (random.nextInt(3) == 0 ? 1 : 2)) + ")";
        }
        return r < 7 ? NAMES[random.nextInt(NAMES.length)] : Integer.toString(random.nextInt(r < 9 ? 20 : 1000));
    }

    private void spoil(StringBuilder all) {
        int times = 1 + random.nextInt(2);
        String[] bits = {"(", ")", "1", "10 ", "12345", " and ", " when ", ";", "<", "=", "+", "-", "fire", "drop ", "x",
            "?", "Z", "\n", " ", "warmthis", "(((((", "drum 3 "};
        for (int i = 0; i < times && all.length() > 0; i++) {
            int at = random.nextInt(all.length());
            if (random.nextBoolean()) {
                all.deleteCharAt(at);
            } else {
                all.insert(at, bits[random.nextInt(bits.length)]);
            }
        }
    }

    // ---- the model

    /** A bag by a map from lots to grams. */
    private static final class Bag {
        int grams;
        int day;
        int house = -1;
        int taken = 0;
        TreeMap<Integer, Integer> parts = new TreeMap<>();
    }

    /** A fraction without bounds. */
    private record Ratio(BigInteger top, BigInteger bottom) {
        static Ratio of(long n) {
            return new Ratio(BigInteger.valueOf(n), BigInteger.ONE);
        }

        Ratio plus(Ratio o) {
            return new Ratio(top.multiply(o.bottom).add(o.top.multiply(bottom)), bottom.multiply(o.bottom));
        }

        Ratio times(long n) {
            return new Ratio(top.multiply(BigInteger.valueOf(n)), bottom);
        }

        Ratio over(long n) {
            return new Ratio(top, bottom.multiply(BigInteger.valueOf(n)));
        }

        int compare(Ratio o) {
            return top.multiply(o.bottom).compareTo(o.top.multiply(bottom));
        }

        int floor() {
            BigInteger[] q = top.divideAndRemainder(bottom);
            return q[0].intValueExact() - (q[1].signum() < 0 ? 1 : 0);
        }
    }

    private record Token(String text, int place) {
        boolean isNumber() {
            return !text.isEmpty() && text.length() <= 4 && Character.isDigit(text.charAt(0));
        }
    }

    private static final class Model {
        static final long THROWN = Long.MIN_VALUE;

        final List<int[]> lots = new ArrayList<>();
        final List<Bag> bags = new ArrayList<>();
        final int[] curve = new int[20];
        final int[] keeps = new int[10];
        final Integer[][] marks = new Integer[5][20];
        final Integer[] told = new Integer[20];
        final int[][] spans = {{0, 100}, {0, 100}, {0, 100}};
        String tape = "";
        List<List<Token>> lines = new ArrayList<>();
        int[] last = null;
        int[] blend = null;
        int now = 0;

        Model() {
            Arrays.fill(curve, 200);
            Arrays.fill(keeps, 30);
        }

        static boolean in(int n, int from, int to) {
            return from <= n && n <= to;
        }

        int lot(int[] p) {
            boolean ok = in(p[0], 1, 100000) && in(p[1], 1, 10000) && in(p[2], 0, 100) && in(p[3], 0, 100) && in(p[4], 0, 100);
            if (!ok || lots.size() == 12) {
                return -1;
            }
            lots.add(p.clone());
            return lots.size() - 1;
        }

        int days(int n) {
            if (!in(n, 0, 100) || now + n > 999) {
                return -1;
            }
            return now += n;
        }

        boolean curve(int minute, int warmth) {
            if (!in(minute, 0, 19) || !in(warmth, 0, 400)) {
                return false;
            }
            curve[minute] = warmth;
            return true;
        }

        int feed(long[] three) {
            for (long l : three) {
                for (byte b : bytes(l)) {
                    if ((b == 10 || b >= 32 && b < 127) && tape.length() < 600) {
                        tape += (char) b;
                    }
                }
            }
            return tape.length();
        }

        private static byte[] bytes(long l) {
            return java.nio.ByteBuffer.allocate(8).putLong(l).array();
        }

        // ---- the text, by a machine of states instead of a descent

        int text() {
            String signs = tape;
            tape = "";
            List<Token> tokens = new ArrayList<>();
            java.util.regex.Matcher m = java.util.regex.Pattern.compile("[a-z]+|[0-9]+|[^ \n]").matcher(signs);
            while (m.find()) {
                tokens.add(new Token(m.group(), m.start()));
            }
            tokens.add(new Token("", signs.length()));
            int fault = fault(tokens);
            if (fault == 0) {
                lines = new ArrayList<>();
                List<Token> line = new ArrayList<>();
                for (Token t : tokens) {
                    if (t.text.equals(";")) {
                        lines.add(line);
                        line = new ArrayList<>();
                    } else {
                        line.add(t);
                    }
                }
            }
            return fault;
        }

        /** States: 0 a line's beginning, 1 amount, 2 when, 3 a PART's beginning, 4 behind a PART. */
        private static int fault(List<Token> tokens) {
            int state = 0;
            int begun = 0;
            int open = 0;
            boolean[] compared = new boolean[700];
            for (Token t : tokens) {
                String s = t.text;
                int kind = 0;
                switch (state) {
                    case 0:
                        if (s.isEmpty()) {
                            return 0;
                        }
                        if (!List.of("fire", "drum", "drop").contains(s)) {
                            kind = 1;
                        } else if (begun == 16) {
                            kind = 5;
                        }
                        begun++;
                        state = s.equals("drop") ? 2 : 1;
                        break;
                    case 1:
                        kind = !t.isNumber() ? 1 : Integer.parseInt(s) > 9 ? 4 : 0;
                        state = 2;
                        break;
                    case 2:
                        kind = s.equals("when") ? 0 : 1;
                        state = 3;
                        open = 0;
                        compared[0] = false;
                        break;
                    case 3:
                        if (!t.isNumber() && !s.equals("(") && !Arrays.asList(NAMES).contains(s)) {
                            kind = 1;
                        } else if (open == 5) {
                            kind = 5;
                        }
                        if (s.equals("(")) {
                            open++;
                            compared[open] = false;
                        } else {
                            state = 4;
                        }
                        break;
                    default:
                        if (s.equals("+") || s.equals("-")) {
                            state = 3;
                        } else if ((s.equals("<") || s.equals("=")) && !compared[open]) {
                            compared[open] = true;
                            state = 3;
                        } else if (s.equals("and")) {
                            compared[open] = false;
                            state = 3;
                        } else if (s.equals(")") && open > 0) {
                            open--;
                        } else if (s.equals(";") && open == 0) {
                            state = 0;
                        } else {
                            kind = 1;
                        }
                }
                if (kind != 0) {
                    return kind + 16 * t.place;
                }
            }
            throw new IllegalStateException("the end is a token");
        }

        /** What tokens from .. to are worth, cut at the last join of the loosest kind outside of all ( ). */
        private static long value(List<Token> t, int from, int to, int[] state) {
            for (List<String> joins : List.of(List.of("and"), List.of("<", "="), List.of("+", "-"))) {
                int open = 0;
                for (int i = to - 1; i >= from; i--) {
                    String s = t.get(i).text;
                    open += s.equals(")") ? 1 : s.equals("(") ? -1 : 0;
                    if (open == 0 && joins.contains(s)) {
                        long left = value(t, from, i, state);
                        long right = value(t, i + 1, to, state);
                        switch (s) {
                            case "and":
                                return left != 0 && right != 0 ? 1 : 0;
                            case "<":
                                return left < right ? 1 : 0;
                            case "=":
                                return left == right ? 1 : 0;
                            case "+":
                                return left + right;
                            default:
                                return left - right;
                        }
                    }
                }
            }
            Token first = t.get(from);
            if (first.text.equals("(")) {
                return value(t, from + 1, to - 1, state);
            }
            return first.isNumber() ? Integer.parseInt(first.text) : state[Arrays.asList(NAMES).indexOf(first.text)];
        }

        int roast(int lot, int grams) {
            if (!in(lot, 0, lots.size() - 1) || !in(grams, 1, 20000) || grams > lots.get(lot)[0] || bags.size() == 60) {
                return -1;
            }
            lots.get(lot)[0] -= grams;
            // As the names stand: minute, warmth, told, rise, fire, drum, grams.
            int[] s = {0, 200, curve[0], 0, 5, 5, grams};
            int way = 0;
            boolean drop = false;
            while (s[0] < 20) {
                s[2] = curve[s[0]];
                way = Math.max(way, Math.abs(s[1] - s[2]));
                for (int i = 0; i < lines.size() && !drop; i++) {
                    List<Token> line = lines.get(i);
                    boolean bare = line.get(0).text.equals("drop");
                    if (value(line, bare ? 2 : 3, line.size(), s) != 0) {
                        if (bare) {
                            drop = true;
                        } else {
                            s[line.get(0).text.equals("fire") ? 4 : 5] = Integer.parseInt(line.get(1).text);
                        }
                    }
                }
                if (drop) {
                    break;
                }
                int w = s[1] + 4 * s[4] - (s[1] - 20) / 20 - s[5];
                w = w < 20 ? 20 : w > 400 ? 400 : w;
                s[3] = w - s[1];
                s[1] = w;
                s[0]++;
            }
            int loss = Math.min(600, s[1] / 4 + 3 * s[0]);
            last = new int[] {s[0], s[1], loss, drop ? 1 : 0, way};
            int out = grams * (1000 - loss) / 1000;
            if (out == 0) {
                return -2;
            }
            Bag bag = new Bag();
            bag.grams = out;
            bag.day = now;
            bag.parts.put(lot, out);
            bags.add(bag);
            return bags.size() - 1;
        }

        int roasted(int what) {
            return last == null || !in(what, 0, 4) ? -1 : last[what];
        }

        boolean hasBag(int bag) {
            return in(bag, 0, bags.size() - 1);
        }

        private int takenBags() {
            return (int) bags.stream().filter(b -> b.taken > 0).count();
        }

        int take(int bag, int grams) {
            if (!hasBag(bag)) {
                return -1;
            }
            Bag b = bags.get(bag);
            if (b.taken > 0 || b.house >= 0 || !in(grams, 1, b.grams)) {
                return -1;
            }
            b.taken = grams;
            return takenBags();
        }

        int blend() {
            if (takenBags() == 0 || bags.size() == 60) {
                return -1;
            }
            Bag into = new Bag();
            into.day = 999;
            for (Bag b : bags) {
                if (b.taken > 0) {
                    into.day = Math.min(into.day, b.day);
                    into.grams += b.taken;
                    TreeMap<Integer, Integer> out = shares(b);
                    for (int lot : out.keySet()) {
                        into.parts.merge(lot, out.get(lot), Integer::sum);
                        b.parts.merge(lot, -out.get(lot), Integer::sum);
                    }
                    b.grams -= b.taken;
                    b.taken = 0;
                    b.parts.values().removeIf(g -> g == 0);
                }
            }
            into.parts.values().removeIf(g -> g == 0);
            bags.add(into);
            return bags.size() - 1;
        }

        private static TreeMap<Integer, Integer> shares(Bag b) {
            TreeMap<Integer, Integer> out = new TreeMap<>();
            int left = b.taken;
            for (int lot : b.parts.keySet()) {
                int whole = (int) ((long) b.taken * b.parts.get(lot) / b.grams);
                out.put(lot, whole);
                left -= whole;
            }
            List<Integer> byRest = new ArrayList<>(b.parts.keySet());
            byRest.sort((x, y) -> Long.compare((long) b.taken * b.parts.get(y) % b.grams, (long) b.taken * b.parts.get(x) % b.grams));
            for (int i = 0; i < left; i++) {
                out.merge(byRest.get(i), 1, Integer::sum);
            }
            return out;
        }

        long bag(int bag, int what) {
            if (!hasBag(bag) || !in(what, 0, 3)) {
                return THROWN;
            }
            Bag b = bags.get(bag);
            return new int[] {b.grams, b.day, b.house, b.parts.size()}[what];
        }

        int part(int bag, int lot) {
            if (!in(lot, 0, lots.size() - 1) || !in(bag, -1, bags.size() - 1)) {
                return -1;
            }
            return bag == -1 ? lots.get(lot)[0] : bags.get(bag).parts.getOrDefault(lot, 0);
        }

        boolean mark(int judge, int sample, int m) {
            if (!in(judge, 0, 4) || !in(sample, 0, 19) || !in(m, 0, 100)) {
                return false;
            }
            marks[judge][sample] = m;
            return true;
        }

        boolean told(int sample, int worth) {
            if (!in(sample, 0, 19) || !in(worth, -1, 100)) {
                return false;
            }
            told[sample] = worth == -1 ? null : Integer.valueOf(worth);
            return true;
        }

        private Ratio worthOf(int sample) {
            if (!in(sample, 0, 19)) {
                return null;
            }
            Ratio sum = Ratio.of(0);
            int judges = 0;
            for (Integer[] given : marks) {
                int n = 0;
                int o = 0;
                for (int s = 0; s < 20; s++) {
                    if (given[s] != null && told[s] != null) {
                        n++;
                        o += given[s] - told[s];
                    }
                }
                if (given[sample] != null && n > 0) {
                    sum = sum.plus(Ratio.of(given[sample])).plus(Ratio.of(-o).over(n));
                    judges++;
                }
            }
            return judges == 0 ? null : sum.over(judges);
        }

        int order(int a, int b) {
            Ratio x = worthOf(a);
            Ratio y = worthOf(b);
            return x == null || y == null ? -2 : x.compare(y);
        }

        int worth(int sample) {
            Ratio x = worthOf(sample);
            return x == null ? -1000000 : x.times(1000).floor();
        }

        boolean span(int taste, int from, int to) {
            if (!in(taste, 0, 2) || !in(from, 0, 100) || !in(to, 0, 100) || from > to) {
                return false;
            }
            spans[taste] = new int[] {from, to};
            return true;
        }

        int best(int set, int grams) {
            if (set <= 0 || set >= 1 << lots.size() || Integer.bitCount(set) > 6 || !in(grams, 10, 100000) || grams % 10 != 0) {
                return -1;
            }
            int[] found = null;
            int least = -1;
            // From the least lot's fewest tenths on, so the later of equal ones is the one that is due.
            for (int[] t : ways(set)) {
                int price = 0;
                boolean ok = true;
                int[] sums = new int[3];
                for (int lot = 0; lot < lots.size(); lot++) {
                    int[] l = lots.get(lot);
                    price += t[lot] * l[1];
                    ok &= (long) t[lot] * grams / 10 <= l[0];
                    for (int i = 0; i < 3; i++) {
                        sums[i] += t[lot] * l[2 + i];
                    }
                }
                for (int i = 0; i < 3; i++) {
                    ok &= in(sums[i], 10 * spans[i][0], 10 * spans[i][1]);
                }
                if (ok && (found == null || price <= least)) {
                    found = t;
                    least = price;
                }
            }
            blend = found == null ? blend : found;
            return least;
        }

        private static List<int[]> ways(int set) {
            List<int[]> all = new ArrayList<>();
            all.add(new int[13]);
            for (int lot = 0; lot < 12; lot++) {
                if ((set >> lot & 1) == 1) {
                    List<int[]> next = new ArrayList<>();
                    boolean isLast = set >> lot == 1;
                    for (int[] t : all) {
                        // The last place counts what is given so far.
                        for (int n = isLast ? 10 - t[12] : 0; n <= 10 - t[12]; n++) {
                            int[] w = t.clone();
                            w[lot] = n;
                            w[12] += n;
                            next.add(w);
                        }
                    }
                    all = next;
                }
            }
            return all;
        }

        int tenths(int lot) {
            return blend == null || !in(lot, 0, lots.size() - 1) ? -1 : blend[lot];
        }

        boolean send(int bag, int house) {
            if (!hasBag(bag) || !in(house, 0, 9)) {
                return false;
            }
            Bag b = bags.get(bag);
            if (b.house >= 0 || b.taken > 0 || b.grams == 0) {
                return false;
            }
            b.house = house;
            return true;
        }

        boolean keeps(int house, int n) {
            if (!in(house, 0, 9) || !in(n, 0, 999)) {
                return false;
            }
            keeps[house] = n;
            return true;
        }

        int stale(int house) {
            return !in(house, 0, 9) ? -1
                    : (int) bags.stream().filter(b -> b.house == house && now - b.day > keeps[house]).count();
        }

        int found(int lot, int i) {
            List<Integer> with = new ArrayList<>();
            for (int b = 0; b < bags.size(); b++) {
                if (bags.get(b).parts.containsKey(lot)) {
                    with.add(b);
                }
            }
            return in(i, 0, with.size() - 1) ? with.get(i) : -1;
        }

        int led(int lot, int house) {
            return !in(lot, 0, lots.size() - 1) || !in(house, 0, 9) ? -1
                    : bags.stream().filter(b -> b.house == house).mapToInt(b -> b.parts.getOrDefault(lot, 0)).sum();
        }

        int count(int what) {
            switch (what) {
                case 0:
                    return lots.size();
                case 1:
                    return bags.size();
                case 2:
                    return now;
                case 3:
                    return lines.size();
                case 4:
                    return tape.length();
                case 5:
                    return takenBags();
                case 6:
                    return bags.stream().mapToInt(b -> b.grams).sum();
                default:
                    return -1;
            }
        }
    }
}
