import java.util.Arrays;
import java.util.NoSuchElementException;

/** Coffee rooms: lots roasted under rules, bags, cups, blends and houses, as the document tells them. */
public final class RoastHouse {
    public static final int NONE = -1;

    private static final int MOST_LOTS = 12;
    private static final int MOST_BAGS = 60;
    private static final int TASTES = 3;
    private static final int HOUSES = 10;
    private static final int LAST_DAY = 999;
    private static final int NOTHING_CAME_OUT = -2;
    private static final int NO_ORDER = -2;
    private static final int NO_WORTH = -1000000;

    private final GreenStore store;
    private final Tape tape;
    private final RuleReader reader;
    private final Roaster roaster;
    private final Bags bags;
    private final Cups cups;
    private final Blender blender;
    private final int[] keptDays;
    private Rules rules;
    private int now;

    public RoastHouse() {
        store = new GreenStore();
        tape = new Tape();
        reader = new RuleReader(tape);
        roaster = new Roaster();
        bags = new Bags();
        cups = new Cups();
        blender = new Blender();
        keptDays = new int[HOUSES];
        Arrays.fill(keptDays, 30);
        rules = new Rules();
        now = 0;
    }

    public int lot(int grams, int price, int a, int b, int c) {
        boolean fits = within(grams, 1, 100000) && within(price, 1, 10000)
                && within(a, 0, 100) && within(b, 0, 100) && within(c, 0, 100);
        if (!fits || store.size >= MOST_LOTS) {
            return NONE;
        }
        return store.add(grams, price, a, b, c);
    }

    public int days(int n) {
        if (!within(n, 0, 100) || now + n > LAST_DAY) {
            return NONE;
        }
        now += n;
        return now;
    }

    public boolean curve(int minute, int warmth) {
        return roaster.tellCurve(minute, warmth);
    }

    public int feed(long a, long b, long c) {
        tape.addBytes(a);
        tape.addBytes(b);
        tape.addBytes(c);
        return tape.length;
    }

    public int text() {
        int fault = reader.readTape();
        tape.length = 0;
        // A tape with a fault is no text, so the text that was there stays.
        if (fault == 0) {
            rules = reader.exchange(rules);
        }
        return fault;
    }

    public int roast(int lot, int grams) {
        if (!store.has(lot) || !within(grams, 1, Math.min(20000, store.left[lot])) || bags.size >= MOST_BAGS) {
            return NONE;
        }
        store.left[lot] -= grams;
        roaster.run(grams, rules);
        int out = grams * (1000 - roaster.loss) / 1000;
        return out < 1 ? NOTHING_CAME_OUT : bags.addOfOneLot(lot, out, now);
    }

    public int roasted(int what) {
        return roaster.tell(what);
    }

    public int take(int bag, int grams) {
        return bags.tellForBlend(bag, grams);
    }

    public int blend() {
        return bags.blendTaken();
    }

    public int bag(int bag, int what) throws NoSuchElementException {
        if (!bags.has(bag) || !within(what, 0, 3)) {
            throw new NoSuchElementException();
        }
        switch (what) {
            case 0:
                return bags.grams[bag];
            case 1:
                return bags.day[bag];
            case 2:
                return bags.house[bag];
            default:
                return bags.lotsIn(bag);
        }
    }

    public int part(int bag, int lot) {
        if (!store.has(lot)) {
            return NONE;
        }
        if (bag == NONE) {
            return store.left[lot];
        }
        return bags.has(bag) ? bags.partOf(bag, lot) : NONE;
    }

    public boolean mark(int judge, int sample, int m) {
        return cups.giveMark(judge, sample, m);
    }

    public boolean told(int sample, int worth) {
        return cups.tellWorth(sample, worth);
    }

    public int order(int a, int b) {
        return cups.compare(a, b);
    }

    public int worth(int sample) {
        return cups.thousandths(sample);
    }

    public boolean span(int taste, int from, int to) {
        return blender.setSpan(taste, from, to);
    }

    public int best(int set, int grams) {
        return blender.search(store, set, grams);
    }

    public int tenths(int lot) {
        return store.has(lot) && blender.hasFound ? blender.latest[lot] : NONE;
    }

    public boolean send(int bag, int house) {
        return within(house, 0, HOUSES - 1) && bags.sendTo(bag, house);
    }

    public boolean keeps(int house, int days) {
        if (!within(house, 0, HOUSES - 1) || !within(days, 0, LAST_DAY)) {
            return false;
        }
        keptDays[house] = days;
        return true;
    }

    public int stale(int house) {
        if (!within(house, 0, HOUSES - 1)) {
            return NONE;
        }
        return bags.olderIn(house, now - keptDays[house]);
    }

    public int found(int lot, int i) {
        return store.has(lot) ? bags.bagWith(lot, i) : NONE;
    }

    public int led(int lot, int house) {
        if (!store.has(lot) || !within(house, 0, HOUSES - 1)) {
            return NONE;
        }
        return bags.gramsIn(house, lot);
    }

    public int count(int what) {
        switch (what) {
            case 0:
                return store.size;
            case 1:
                return bags.size;
            case 2:
                return now;
            case 3:
                return rules.lines;
            case 4:
                return tape.length;
            case 5:
                return bags.takenBags;
            case 6:
                return bags.allGrams();
            default:
                return NONE;
        }
    }

    private static boolean within(int n, int least, int most) {
        return n >= least && n <= most;
    }

    /** The LOTS with their green grams that are left. */
    private static final class GreenStore {
        int size;
        final int[] left;
        final int[] price;
        final int[] taste;

        GreenStore() {
            size = 0;
            left = new int[MOST_LOTS];
            price = new int[MOST_LOTS];
            taste = new int[MOST_LOTS * TASTES];
        }

        boolean has(int lot) {
            return lot >= 0 && lot < size;
        }

        int add(int grams, int pricePerThousand, int a, int b, int c) {
            int lot = size;
            left[lot] = grams;
            price[lot] = pricePerThousand;
            taste[lot * TASTES] = a;
            taste[lot * TASTES + 1] = b;
            taste[lot * TASTES + 2] = c;
            size++;
            return lot;
        }
    }

    /** The signs that were fed and that no text has taken yet. */
    private static final class Tape {
        static final int MOST_SIGNS = 600;

        final byte[] signs;
        int length;

        Tape() {
            signs = new byte[MOST_SIGNS];
            length = 0;
        }

        void addBytes(long eight) {
            for (int shift = 56; shift >= 0; shift -= 8) {
                addSign((int) (eight >>> shift) & 255);
            }
        }

        private void addSign(int sign) {
            boolean fits = sign == 10 || within(sign, 32, 126);
            if (fits && length < MOST_SIGNS) {
                signs[length] = (byte) sign;
                length++;
            }
        }
    }

    /** The tape as tokens, one at a time. */
    private static final class Tokens {
        static final int END = 0;
        static final int WRONG = 1;
        static final int NUMBER = 2;
        static final int FIRE = 3;
        static final int DRUM = 4;
        static final int DROP = 5;
        static final int WHEN = 6;
        static final int AND = 7;
        static final int MINUTE = 8;
        static final int WARMTH = 9;
        static final int TOLD = 10;
        static final int RISE = 11;
        static final int GRAMS = 12;
        static final int OPEN = 13;
        static final int CLOSE = 14;
        static final int LESS = 15;
        static final int SAME = 16;
        static final int PLUS = 17;
        static final int MINUS = 18;
        static final int SEMICOLON = 19;
        static final int MOST_DIGITS = 4;

        final Tape tape;
        int kind;
        int place;
        int number;
        private int behind;

        Tokens(Tape tapeToRead) {
            tape = tapeToRead;
            begin();
        }

        void begin() {
            kind = END;
            place = 0;
            number = 0;
            behind = 0;
        }

        void advance() {
            skipBlanks();
            if (place >= tape.length) {
                kind = END;
            } else if (isLetter(tape.signs[place])) {
                goBehindWord();
                kind = kindOfWord(tape.signs[place]);
            } else if (isDigit(tape.signs[place])) {
                readNumber();
                kind = behind - place > MOST_DIGITS ? WRONG : NUMBER;
            } else {
                behind = place + 1;
                kind = kindOfSign(tape.signs[place]);
            }
        }

        private void skipBlanks() {
            place = behind;
            while (place < tape.length && isBlank(tape.signs[place])) {
                place++;
            }
            behind = place;
        }

        private void goBehindWord() {
            while (behind < tape.length && isLetter(tape.signs[behind])) {
                behind++;
            }
        }

        private void readNumber() {
            number = 0;
            while (behind < tape.length && isDigit(tape.signs[behind])) {
                // What has more digits is no token: nobody asks for its value, and it must not grow without end.
                if (behind - place < MOST_DIGITS) {
                    number = number * 10 + tape.signs[behind] - '0';
                }
                behind++;
            }
        }

        // A word that is not of the text's own can stand nowhere, so it is as wrong as none (one of over 8 letters, too).
        private int kindOfWord(int firstLetter) {
            switch (firstLetter) {
                case 'a':
                    return isWord("and") ? AND : WRONG;
                case 'd':
                    return isWord("drum") ? DRUM : isWord("drop") ? DROP : WRONG;
                case 'f':
                    return isWord("fire") ? FIRE : WRONG;
                case 'g':
                    return isWord("grams") ? GRAMS : WRONG;
                case 'm':
                    return isWord("minute") ? MINUTE : WRONG;
                case 'r':
                    return isWord("rise") ? RISE : WRONG;
                case 't':
                    return isWord("told") ? TOLD : WRONG;
                case 'w':
                    return isWord("when") ? WHEN : isWord("warmth") ? WARMTH : WRONG;
                default:
                    return WRONG;
            }
        }

        private boolean isWord(String word) {
            if (behind - place != word.length() || behind > tape.length) {
                return false;
            }
            for (int i = 0; i < word.length(); i++) {
                if (tape.signs[place + i] != word.charAt(i)) {
                    return false;
                }
            }
            return true;
        }

        private static int kindOfSign(int sign) {
            switch (sign) {
                case '(':
                    return OPEN;
                case ')':
                    return CLOSE;
                case '<':
                    return LESS;
                case '=':
                    return SAME;
                case '+':
                    return PLUS;
                case '-':
                    return MINUS;
                case ';':
                    return SEMICOLON;
                default:
                    return WRONG;
            }
        }

        private static boolean isBlank(int sign) {
            return sign == 10 || sign == 32;
        }

        private static boolean isLetter(int sign) {
            return within(sign, 'a', 'z');
        }

        private static boolean isDigit(int sign) {
            return within(sign, '0', '9');
        }
    }

    /** A text's lines; each E stands as steps in which the two sides come ahead of what joins them. */
    private static final class Rules {
        static final int MOST_LINES = 16;
        // Five levels with three sides waiting in each, and one more, are the most that a text can ask for.
        static final int MOST_WAITING = 16;

        int lines;
        final int[] act;
        final int[] amount;
        private final int[] stepsEnd;
        // A number stands as itself, all else as its token's kind below 0; no sign of the tape makes two steps.
        private final int[] steps;
        private int stepCount;
        private final int[] waiting;
        private int waitingCount;

        Rules() {
            lines = 0;
            act = new int[MOST_LINES];
            amount = new int[MOST_LINES];
            stepsEnd = new int[MOST_LINES];
            steps = new int[Tape.MOST_SIGNS];
            stepCount = 0;
            waiting = new int[MOST_WAITING];
            waitingCount = 0;
        }

        void clear() {
            lines = 0;
            stepCount = 0;
        }

        void addNumber(int number) {
            if (stepCount < steps.length) {
                steps[stepCount] = number;
                stepCount++;
            }
        }

        void addKind(int kind) {
            addNumber(-kind);
        }

        void endLine(int lineAct, int lineAmount) {
            if (lines < MOST_LINES) {
                act[lines] = lineAct;
                amount[lines] = lineAmount;
                stepsEnd[lines] = stepCount;
                lines++;
            }
        }

        /** What the E of a line (below the lines' number) is worth. */
        int valueOf(int line, Roaster at) {
            waitingCount = 0;
            int first = line == 0 ? 0 : stepsEnd[line - 1];
            for (int i = first; i < stepsEnd[line]; i++) {
                int step = steps[i];
                if (step >= 0) {
                    push(step);
                } else if (joins(-step)) {
                    int right = pop();
                    push(joined(-step, pop(), right));
                } else {
                    push(at.valueNow(-step));
                }
            }
            return pop();
        }

        private static boolean joins(int kind) {
            return kind == Tokens.AND || within(kind, Tokens.LESS, Tokens.MINUS);
        }

        private static int joined(int kind, int left, int right) {
            switch (kind) {
                case Tokens.AND:
                    return left != 0 && right != 0 ? 1 : 0;
                case Tokens.LESS:
                    return left < right ? 1 : 0;
                case Tokens.SAME:
                    return left == right ? 1 : 0;
                case Tokens.PLUS:
                    return left + right;
                default:
                    return left - right;
            }
        }

        private void push(int value) {
            if (waitingCount < MOST_WAITING) {
                waiting[waitingCount] = value;
                waitingCount++;
            }
        }

        private int pop() {
            if (waitingCount <= 0) {
                return 0;
            }
            waitingCount--;
            return waiting[waitingCount];
        }
    }

    /** Reads the tape as a TEXT; each reading method tells whether it met no fault. */
    private static final class RuleReader {
        static final int CANNOT_STAND = 1;
        static final int NUMBER_TOO_HIGH = 4;
        static final int TOO_MANY = 5;
        static final int MOST_DEPTH = 5;

        private final Tokens tokens;
        private Rules target;
        private int fault;

        RuleReader(Tape tape) {
            tokens = new Tokens(tape);
            target = new Rules();
            fault = 0;
        }

        /** Hands out what was read, and takes older rules to read the next ones into. */
        Rules exchange(Rules older) {
            Rules read = target;
            target = older;
            return read;
        }

        int readTape() {
            target.clear();
            fault = 0;
            tokens.begin();
            tokens.advance();
            // One round more than lines: the line too many is the one that ends in its fault.
            for (int n = 0; n <= Rules.MOST_LINES && tokens.kind != Tokens.END; n++) {
                if (!readLine()) {
                    return fault;
                }
            }
            return fault;
        }

        private boolean wrong(int kind) {
            fault = kind + 16 * tokens.place;
            return false;
        }

        private boolean pass(int kind) {
            if (tokens.kind != kind) {
                return wrong(CANNOT_STAND);
            }
            tokens.advance();
            return true;
        }

        private boolean readLine() {
            int act = tokens.kind;
            if (act != Tokens.FIRE && act != Tokens.DRUM && act != Tokens.DROP) {
                return wrong(CANNOT_STAND);
            }
            if (target.lines >= Rules.MOST_LINES) {
                return wrong(TOO_MANY);
            }
            tokens.advance();
            int amount = 0;
            if (act != Tokens.DROP) {
                amount = tokens.number;
                if (!passAmount()) {
                    return false;
                }
            }
            if (!pass(Tokens.WHEN) || !readTests(0) || !pass(Tokens.SEMICOLON)) {
                return false;
            }
            target.endLine(act, amount);
            return true;
        }

        private boolean passAmount() {
            if (tokens.kind == Tokens.NUMBER && tokens.number > 9) {
                return wrong(NUMBER_TOO_HIGH);
            }
            return pass(Tokens.NUMBER);
        }

        /** An E that stands within so many PARTS. */
        private boolean readTests(int depth) {
            if (!readTest(depth)) {
                return false;
            }
            for (int n = 0; n < Tape.MOST_SIGNS && tokens.kind == Tokens.AND; n++) {
                tokens.advance();
                if (!readTest(depth)) {
                    return false;
                }
                target.addKind(Tokens.AND);
            }
            return true;
        }

        private boolean readTest(int depth) {
            if (!readSum(depth)) {
                return false;
            }
            int join = tokens.kind;
            if (join == Tokens.LESS || join == Tokens.SAME) {
                tokens.advance();
                if (!readSum(depth)) {
                    return false;
                }
                target.addKind(join);
            }
            return true;
        }

        private boolean readSum(int depth) {
            if (!readPart(depth)) {
                return false;
            }
            for (int n = 0; n < Tape.MOST_SIGNS && isPlusOrMinus(tokens.kind); n++) {
                int join = tokens.kind;
                tokens.advance();
                if (!readPart(depth)) {
                    return false;
                }
                target.addKind(join);
            }
            return true;
        }

        private boolean readPart(int depth) {
            int kind = tokens.kind;
            if (kind != Tokens.NUMBER && kind != Tokens.OPEN && !isName(kind)) {
                return wrong(CANNOT_STAND);
            }
            if (depth >= MOST_DEPTH) {
                return wrong(TOO_MANY);
            }
            int number = tokens.number;
            tokens.advance();
            if (kind == Tokens.OPEN) {
                return readTests(depth + 1) && pass(Tokens.CLOSE);
            }
            if (kind == Tokens.NUMBER) {
                target.addNumber(number);
            } else {
                target.addKind(kind);
            }
            return true;
        }

        private static boolean isPlusOrMinus(int kind) {
            return kind == Tokens.PLUS || kind == Tokens.MINUS;
        }

        private static boolean isName(int kind) {
            return kind == Tokens.FIRE || kind == Tokens.DRUM || within(kind, Tokens.MINUTE, Tokens.GRAMS);
        }
    }

    /** The told curve, and the latest ROAST as it goes and as it ended. */
    private static final class Roaster {
        static final int MINUTES = 20;
        static final int COLDEST = 20;
        static final int HOTTEST = 400;
        static final int MOST_LOSS = 600;

        int loss;
        private final int[] toldWarmth;
        private boolean hasRun;
        private int grams;
        private int minute;
        private int warmth;
        private int fire;
        private int drum;
        private int rise;
        private int minutesGone;
        private boolean dropped;
        private int farthest;

        Roaster() {
            toldWarmth = new int[MINUTES];
            Arrays.fill(toldWarmth, 200);
            hasRun = false;
            start(0);
        }

        private void start(int green) {
            grams = green;
            minute = 0;
            warmth = 200;
            fire = 5;
            drum = 5;
            rise = 0;
            minutesGone = 0;
            dropped = false;
            farthest = 0;
            loss = 0;
        }

        boolean tellCurve(int ofMinute, int toBe) {
            if (!within(ofMinute, 0, MINUTES - 1) || !within(toBe, 0, HOTTEST)) {
                return false;
            }
            toldWarmth[ofMinute] = toBe;
            return true;
        }

        void run(int green, Rules rules) {
            start(green);
            hasRun = true;
            for (int m = 0; m < MINUTES && !dropped; m++) {
                minute = m;
                farthest = Math.max(farthest, Math.abs(warmth - toldWarmth[m]));
                goThrough(rules);
                if (!dropped) {
                    grow();
                }
            }
            loss = Math.min(MOST_LOSS, warmth / 4 + 3 * minutesGone);
        }

        private void goThrough(Rules rules) {
            for (int line = 0; line < rules.lines && !dropped; line++) {
                if (rules.valueOf(line, this) != 0) {
                    doAct(rules.act[line], rules.amount[line]);
                }
            }
        }

        private void doAct(int act, int amount) {
            if (act == Tokens.FIRE) {
                fire = amount;
            } else if (act == Tokens.DRUM) {
                drum = amount;
            } else {
                dropped = true;
            }
        }

        private void grow() {
            int grown = warmth + 4 * fire - (warmth - 20) / 20 - drum;
            int next = Math.max(COLDEST, Math.min(HOTTEST, grown));
            rise = next - warmth;
            warmth = next;
            minutesGone++;
        }

        /** What a name of the text stands for in this minute. */
        int valueNow(int kind) {
            switch (kind) {
                case Tokens.MINUTE:
                    return minute;
                case Tokens.WARMTH:
                    return warmth;
                case Tokens.TOLD:
                    return within(minute, 0, MINUTES - 1) ? toldWarmth[minute] : 0;
                case Tokens.RISE:
                    return rise;
                case Tokens.FIRE:
                    return fire;
                case Tokens.DRUM:
                    return drum;
                default:
                    return grams;
            }
        }

        int tell(int what) {
            if (!hasRun) {
                return NONE;
            }
            switch (what) {
                case 0:
                    return minutesGone;
                case 1:
                    return warmth;
                case 2:
                    return loss;
                case 3:
                    return dropped ? 1 : 0;
                case 4:
                    return farthest;
                default:
                    return NONE;
            }
        }
    }

    /** The BAGS, what is told of them for the next blending, and the houses they are in. */
    private static final class Bags {
        int size;
        int takenBags;
        final int[] grams;
        final int[] day;
        final int[] house;
        private final int[] taken;
        private final int[] parts;
        private final int[] share;
        private final int[] rest;

        Bags() {
            size = 0;
            takenBags = 0;
            grams = new int[MOST_BAGS];
            day = new int[MOST_BAGS];
            house = new int[MOST_BAGS];
            taken = new int[MOST_BAGS];
            parts = new int[MOST_BAGS * MOST_LOTS];
            share = new int[MOST_LOTS];
            rest = new int[MOST_LOTS];
        }

        boolean has(int bag) {
            return bag >= 0 && bag < size;
        }

        private int addEmpty(int ofDay) {
            int bag = size;
            day[bag] = ofDay;
            house[bag] = NONE;
            size++;
            return bag;
        }

        /** A new bag; the caller has seen that there are less than 60. */
        int addOfOneLot(int lot, int out, int ofDay) {
            int bag = addEmpty(ofDay);
            grams[bag] = out;
            parts[bag * MOST_LOTS + lot] = out;
            return bag;
        }

        int partOf(int bag, int lot) {
            return parts[bag * MOST_LOTS + lot];
        }

        int lotsIn(int bag) {
            int lots = 0;
            for (int lot = 0; lot < MOST_LOTS; lot++) {
                if (partOf(bag, lot) > 0) {
                    lots++;
                }
            }
            return lots;
        }

        int tellForBlend(int bag, int n) {
            if (!has(bag) || taken[bag] > 0 || house[bag] != NONE || !within(n, 1, grams[bag])) {
                return NONE;
            }
            taken[bag] = n;
            takenBags++;
            return takenBags;
        }

        int blendTaken() {
            if (takenBags == 0 || size >= MOST_BAGS) {
                return NONE;
            }
            int into = addEmpty(LAST_DAY);
            for (int bag = 0; bag < into; bag++) {
                if (taken[bag] > 0) {
                    pour(bag, into, taken[bag]);
                    day[into] = Math.min(day[into], day[bag]);
                    taken[bag] = 0;
                }
            }
            takenBags = 0;
            return into;
        }

        private void pour(int from, int into, int n) {
            shareOut(from, n);
            for (int lot = 0; lot < MOST_LOTS; lot++) {
                parts[from * MOST_LOTS + lot] -= share[lot];
                parts[into * MOST_LOTS + lot] += share[lot];
            }
            grams[from] -= n;
            grams[into] += n;
        }

        private void shareOut(int bag, int n) {
            int all = Math.max(1, grams[bag]);
            int left = n;
            for (int lot = 0; lot < MOST_LOTS; lot++) {
                // Over a million grams can lie in one bag, so the product needs a long.
                long product = (long) n * partOf(bag, lot);
                share[lot] = (int) (product / all);
                rest[lot] = (int) (product % all);
                left -= share[lot];
            }
            for (int round = 0; round < MOST_LOTS && left > 0; round++) {
                int lot = lotOfGreatestRest();
                share[lot]++;
                rest[lot] = 0;
                left--;
            }
        }

        // The rests add up to the left grams times the bag's, so none above 0 is ever needed twice, nor goes over its part.
        private int lotOfGreatestRest() {
            int greatest = 0;
            for (int lot = 1; lot < MOST_LOTS; lot++) {
                if (rest[lot] > rest[greatest]) {
                    greatest = lot;
                }
            }
            return greatest;
        }

        boolean sendTo(int bag, int toHouse) {
            if (!has(bag) || house[bag] != NONE || taken[bag] > 0 || grams[bag] == 0) {
                return false;
            }
            house[bag] = toHouse;
            return true;
        }

        int olderIn(int ofHouse, int thanDay) {
            int older = 0;
            for (int bag = 0; bag < size; bag++) {
                if (house[bag] == ofHouse && day[bag] < thanDay) {
                    older++;
                }
            }
            return older;
        }

        int bagWith(int lot, int i) {
            int seen = 0;
            for (int bag = 0; bag < size; bag++) {
                if (partOf(bag, lot) > 0) {
                    if (seen == i) {
                        return bag;
                    }
                    seen++;
                }
            }
            return NONE;
        }

        int gramsIn(int ofHouse, int lot) {
            int sum = 0;
            for (int bag = 0; bag < size; bag++) {
                if (house[bag] == ofHouse) {
                    sum += partOf(bag, lot);
                }
            }
            return sum;
        }

        int allGrams() {
            int sum = 0;
            for (int bag = 0; bag < size; bag++) {
                sum += grams[bag];
            }
            return sum;
        }
    }

    /** Marks, told worths, and what a SAMPLE is worth by them. */
    private static final class Cups {
        static final int JUDGES = 5;
        static final int SAMPLES = 20;

        private final int[] marks;
        private final int[] toldWorth;
        // Of the sample weighed last: its WORTH is numerator / denominator, exactly.
        private long numerator;
        private long denominator;

        Cups() {
            marks = new int[JUDGES * SAMPLES];
            Arrays.fill(marks, NONE);
            toldWorth = new int[SAMPLES];
            Arrays.fill(toldWorth, NONE);
            numerator = 0;
            denominator = 1;
        }

        private static boolean hasSample(int sample) {
            return within(sample, 0, SAMPLES - 1);
        }

        boolean giveMark(int judge, int sample, int m) {
            if (!within(judge, 0, JUDGES - 1) || !hasSample(sample) || !within(m, 0, 100)) {
                return false;
            }
            marks[judge * SAMPLES + sample] = m;
            return true;
        }

        boolean tellWorth(int sample, int toBe) {
            if (!hasSample(sample) || !(toBe == NONE || within(toBe, 0, 100))) {
                return false;
            }
            toldWorth[sample] = toBe;
            return true;
        }

        int compare(int a, int b) {
            if (!weigh(a)) {
                return NO_ORDER;
            }
            long firstNumerator = numerator;
            long firstDenominator = denominator;
            if (!weigh(b)) {
                return NO_ORDER;
            }
            return Long.compare(firstNumerator * denominator, numerator * firstDenominator);
        }

        int thousandths(int sample) {
            if (!weigh(sample) || denominator <= 0) {
                return NO_WORTH;
            }
            return (int) Math.floorDiv(numerator * 1000, denominator);
        }

        /** False if there is no such sample, or it has no WORTH. */
        private boolean weigh(int sample) {
            if (!hasSample(sample)) {
                return false;
            }
            numerator = 0;
            denominator = 1;
            int judges = 0;
            for (int judge = 0; judge < JUDGES; judge++) {
                int n = toldMarkedBy(judge);
                int given = marks[judge * SAMPLES + sample];
                if (given != NONE && n > 0) {
                    long inNths = (long) given * n - excessOf(judge);
                    numerator = numerator * n + inNths * denominator;
                    denominator *= n;
                    judges++;
                }
            }
            denominator *= judges;
            return judges > 0;
        }

        private boolean isToldAndMarked(int judge, int sample) {
            return toldWorth[sample] != NONE && marks[judge * SAMPLES + sample] != NONE;
        }

        private int toldMarkedBy(int judge) {
            int n = 0;
            for (int sample = 0; sample < SAMPLES; sample++) {
                if (isToldAndMarked(judge, sample)) {
                    n++;
                }
            }
            return n;
        }

        private int excessOf(int judge) {
            int excess = 0;
            for (int sample = 0; sample < SAMPLES; sample++) {
                if (isToldAndMarked(judge, sample)) {
                    excess += marks[judge * SAMPLES + sample] - toldWorth[sample];
                }
            }
            return excess;
        }
    }

    /** The spans, the search for the BEST BLEND, and the latest one that was found. */
    private static final class Blender {
        static final int MOST_MEMBERS = 6;
        static final int TENTHS = 10;

        boolean hasFound;
        final int[] latest;
        private final int[] from;
        private final int[] to;
        private int members;
        private final int[] member;
        private final int[] most;
        private final int[] trial;
        private final int[] kept;
        private int leastCost;

        Blender() {
            hasFound = false;
            latest = new int[MOST_LOTS];
            from = new int[TASTES];
            to = new int[TASTES];
            Arrays.fill(to, 100);
            members = 0;
            member = new int[MOST_MEMBERS];
            most = new int[MOST_MEMBERS];
            trial = new int[MOST_MEMBERS];
            kept = new int[MOST_MEMBERS];
            leastCost = NONE;
        }

        boolean setSpan(int taste, int least, int greatest) {
            if (!within(taste, 0, TASTES - 1) || !within(least, 0, 100) || !within(greatest, least, 100)) {
                return false;
            }
            from[taste] = least;
            to[taste] = greatest;
            return true;
        }

        int search(GreenStore store, int set, int grams) {
            boolean fits = set > 0 && set >> store.size == 0 && Integer.bitCount(set) <= MOST_MEMBERS
                    && within(grams, 10, 100000) && grams % 10 == 0;
            if (!fits) {
                return NONE;
            }
            gather(store, set, grams / 10);
            leastCost = NONE;
            tryMember(store, 0, TENTHS, 0);
            if (leastCost != NONE) {
                keepAsLatest();
            }
            return leastCost;
        }

        private void gather(GreenStore store, int set, int tenth) {
            members = 0;
            for (int lot = 0; lot < store.size; lot++) {
                if ((set >> lot & 1) == 1 && members < MOST_MEMBERS) {
                    member[members] = lot;
                    most[members] = tenth > 0 ? Math.min(TENTHS, store.left[lot] / tenth) : 0;
                    members++;
                }
            }
        }

        // The most tenths of the least lot come first, so of equal costs the first that is met is the one to keep.
        private void tryMember(GreenStore store, int at, int left, int cost) {
            if (leastCost != NONE && cost >= leastCost) {
                return;
            }
            if (at >= members) {
                if (left == 0 && tastesFit(store)) {
                    leastCost = cost;
                    System.arraycopy(trial, 0, kept, 0, MOST_MEMBERS);
                }
                return;
            }
            int least = at == members - 1 ? left : 0;
            for (int n = Math.min(left, most[at]); n >= least; n--) {
                trial[at] = n;
                tryMember(store, at + 1, left - n, cost + n * store.price[member[at]]);
            }
        }

        private boolean tastesFit(GreenStore store) {
            for (int taste = 0; taste < TASTES; taste++) {
                int sum = 0;
                for (int i = 0; i < members; i++) {
                    sum += trial[i] * store.taste[member[i] * TASTES + taste];
                }
                if (!within(sum, TENTHS * from[taste], TENTHS * to[taste])) {
                    return false;
                }
            }
            return true;
        }

        private void keepAsLatest() {
            hasFound = true;
            Arrays.fill(latest, 0);
            for (int i = 0; i < members; i++) {
                latest[member[i]] = kept[i];
            }
        }
    }
}
