import java.util.Arrays;
import java.util.List;
import java.util.Set;

/** The sentences on the TAPE, TOKENS, TEXTS, FAULTS, and what the names of a TEXT stand for. */
final class TextSentences {
    private static final int NONE_OR_MISPLACED = 1;
    private static final int TOO_HIGH = 4;
    private static final int TOO_MANY = 5;
    private static final String LINE = "drop when 1;";
    private static final List<String> NAMES = List.of("minute", "warmth", "told", "rise", "fire", "drum", "grams");

    private final Sheet sheet;

    TextSentences(Sheet sheet) {
        this.sheet = sheet;
    }

    void all() {
        sheet.section("Terms 2");
        signsOfTheTape();
        lengthOfTheTape();
        takenByReading();
        blanks();
        asLongAsCanBe();
        words();
        numbers();
        signs();
        none();
        lines();
        tests();
        comparisons();
        sums();
        parts();
        anyMore();
        amounts();
        places();
        firstAndLeast();
        cannotStand();
        tooHigh();
        tooManyLines();
        tooDeep();
        warmthAndTold();
        rise();
        fireAndDrum();
        grams();
        and();
        lessAndSame();
    }

    private void dueText(String signs, int kind, int place) {
        House x = sheet.house();
        x.due(kind + 16 * place, x.read(signs));
        x.due(0, x.count(4));
    }

    private void dueText(String signs) {
        dueText(signs, 0, 0);
    }

    /** How many MINUTES went by in a ROAST of 1,000 grams by a text. */
    private void dueMinutes(String text, int minutes) {
        House x = sheet.house().lots(1);
        x.due(0, x.read(text));
        x.roast(0, 1000);
        x.due(minutes, x.roasted(0));
    }

    private void dueValue(String of, int value) {
        String as = value < 0 ? "0 - " + -value : Integer.toString(value);
        dueMinutes("drop when (" + of + ") = " + as + ";", 0);
        dueMinutes("drop when minute = 0 and (" + of + ") < " + as + ";", 20);
        dueMinutes("drop when minute = 0 and " + as + " < (" + of + ");", 20);
    }

    // ---- the tape

    private void signsOfTheTape() {
        sheet.says("10 and 32 .. 126;");
        House x = sheet.house();
        int on = 0;
        for (int sign = 0; sign < 256; sign++) {
            on += sign == 10 || sign >= 32 && sign <= 126 ? 1 : 0;
            x.due(on, x.feed(0, 0, sign));
        }
        x.due(96, x.count(4));
    }

    private void lengthOfTheTape() {
        sheet.says("TEXTS. The TAPE has at most 600 signs,");
        House x = sheet.house().tape(" ".repeat(598));
        x.due(599, x.feed(0, 0, ' '));
        x.due(600, x.feed(0, 0, ' '));
        x.due(600, x.feed(0, 0, ' '));
        x.due(600, x.count(4));
        x.due(0, x.text());
        // The line ends at the 599th, the 600th, and would end at the 601st sign.
        dueText(" ".repeat(587) + LINE);
        dueText(" ".repeat(588) + LINE);
        dueText(" ".repeat(589) + LINE, NONE_OR_MISPLACED, 600);
    }

    private void takenByReading() {
        sheet.says("what reads it takes it: it is empty then.");
        House x = sheet.house();
        x.due(0, x.text());
        x.due(0, x.count(4));
        x.due(0, x.read(LINE));
        x.due(0, x.count(4));
        x.due(1, x.count(3));
        x.due(NONE_OR_MISPLACED, x.read("stop"));
        x.due(0, x.count(4));
        x.due(0, x.read(LINE + LINE));
        x.due(2, x.count(3));
        x.tape(" ".repeat(600));
        x.due(0, x.text());
        x.due(0, x.count(4));
        x.due(1, x.feed(0, 0, ' '));
    }

    // ---- tokens

    private void blanks() {
        sheet.says("blanks (10, 32) between where one likes:");
        dueText("drop when(1)+(1)<1and 1;drop when 1;");
        dueText("drop when 1;drop when 1;");
        dueText(" drop when 1 ; ");
        dueText("\ndrop\nwhen\n1\n;\n");
        dueText("   \n\n drop \n when \n\n 1 \n ; \n\n  ");
        dueText(" ");
        dueText("\n");
        dueText("dr op when 1;", NONE_OR_MISPLACED, 0);
        dueText("dro\np when 1;", NONE_OR_MISPLACED, 0);
        dueText("drop when 1 2;", NONE_OR_MISPLACED, 12);
        dueText("drop when 1\n2;", NONE_OR_MISPLACED, 12);
        dueText("dropwhen 1;", NONE_OR_MISPLACED, 0);
        dueText("drop when1;");
    }

    private void asLongAsCanBe() {
        sheet.says("TOKENS, each as long as can be,");
        dueText("drop when 12;");
        dueText("drop when 1 + 12 < 1234;");
        dueText("drop when firedrum;", NONE_OR_MISPLACED, 10);
        dueText("drop when fire drum;", NONE_OR_MISPLACED, 15);
        dueText("drop when 1 and1;");
        dueText("drop when 1 andfire;", NONE_OR_MISPLACED, 12);
        // 12 and 3 are one number: if they were two, the first alone would be above 9 or not.
        dueText("fire 12 when 1;", TOO_HIGH, 5);
        dueText("fire 1 2 when 1;", NONE_OR_MISPLACED, 7);
    }

    private void words() {
        sheet.says("WORDS (letters a .. z, 8 at most),");
        // A letter right behind "and" makes it another word; what is no letter ends it.
        for (char c = 32; c <= 126; c++) {
            String signs = "drop when 1and" + c + "1;";
            if (c >= 'a' && c <= 'z') {
                dueText(signs, NONE_OR_MISPLACED, 11);
            } else if (c == ' ' || c >= '0' && c <= '9') {
                dueText(signs);
            } else if (c == '(') {
                dueText(signs, NONE_OR_MISPLACED, 16);
            } else {
                dueText(signs, NONE_OR_MISPLACED, 14);
            }
        }
        // 6, 7, 8, 9 letters and more: only the words of a TEXT can stand, and a wrong one is so at its first sign.
        dueText("drop when minute;");
        dueText("drop when minutea;", NONE_OR_MISPLACED, 10);
        dueText("drop when minuteab;", NONE_OR_MISPLACED, 10);
        dueText("drop when minuteabc;", NONE_OR_MISPLACED, 10);
        dueText("drop when " + "minute".repeat(90) + ";", NONE_OR_MISPLACED, 10);
        dueText("drop when Minute;", NONE_OR_MISPLACED, 10);
        dueText("drop when minutE;", NONE_OR_MISPLACED, 10);
        dueText("drop when minuteE;", NONE_OR_MISPLACED, 16);
    }

    private void numbers() {
        sheet.says("NUMBERS (1 to 4 digits; a letter may stand right behind),");
        dueText("drop when 1;");
        dueText("drop when 12;");
        dueText("drop when 999;");
        dueText("drop when 9999;");
        dueText("drop when 10000;", NONE_OR_MISPLACED, 10);
        dueText("drop when 0000;");
        dueText("drop when 00000;", NONE_OR_MISPLACED, 10);
        dueValue("9999", 9999);
        dueValue("0009", 9);
        dueText("drop when 1and 1234and 5;");
        dueText("fire 1when 1;");
        dueText("drop when 1a;", NONE_OR_MISPLACED, 11);
        dueText("drop when 1234z;", NONE_OR_MISPLACED, 14);
        for (char c = 32; c <= 126; c++) {
            String signs = "drop when " + c + ";";
            if (c >= '0' && c <= '9') {
                dueText(signs);
            } else {
                dueText(signs, NONE_OR_MISPLACED, c == ' ' || c == '(' ? 11 : 10);
            }
        }
    }

    private void signs() {
        sheet.says("the signs ( ) < = + - and the semicolon.");
        // Between two numbers: four of the signs join them, and ; ends the line.
        for (char c = 32; c <= 126; c++) {
            String text = "drop when 1" + c + "1;";
            if ("<=+-0123456789".indexOf(c) >= 0) {
                dueText(text);
            } else {
                dueText(text, NONE_OR_MISPLACED, c == ';' || c == ' ' ? 12 : 11);
            }
        }
        dueText("drop when (1);");
        dueText("drop when )1(;", NONE_OR_MISPLACED, 10);
    }

    private void none() {
        sheet.says("All else (a longer WORD or NUMBER, too, at its first sign) is none.");
        // At a line's beginning: what is no blank can't stand, be it a token or none.
        for (char c = 33; c <= 126; c++) {
            dueText(" " + c, NONE_OR_MISPLACED, 1);
        }
        dueText("drop when 1 + 123456789;", NONE_OR_MISPLACED, 14);
        dueText("drop when " + "1".repeat(590), NONE_OR_MISPLACED, 10);
        dueText("drop when 1 + abcdefghi;", NONE_OR_MISPLACED, 14);
        dueText("abcdefghi", NONE_OR_MISPLACED, 0);
        dueText("drop when 1 < 12345 ? ;", NONE_OR_MISPLACED, 14);
        dueText("drop when 1 ? 12345;", NONE_OR_MISPLACED, 12);
    }

    // ---- what a text is made of

    private void lines() {
        sheet.says("TEXT: 16 lines at most fire N when E ; drum N when E ; drop when E ;");
        for (int lines = 0; lines <= 16; lines++) {
            House x = sheet.house();
            x.due(0, x.read(LINE.repeat(lines)));
            x.due(lines, x.count(3));
        }
        House x = sheet.house();
        x.due(TOO_MANY + 16 * 16 * LINE.length(), x.read(LINE.repeat(17)));
        x.due(0, x.count(3));
        dueText("fire 3 when 1;drum 4 when 1;drop when 1;");
        dueText("fire when 1;", NONE_OR_MISPLACED, 5);
        dueText("drop 3 when 1;", NONE_OR_MISPLACED, 5);
        dueText("fire 3 1;", NONE_OR_MISPLACED, 7);
        dueText("fire 3 when;", NONE_OR_MISPLACED, 11);
        dueText("fire 3 when 1", NONE_OR_MISPLACED, 13);
    }

    private void tests() {
        sheet.says("E: TEST { and TEST }.");
        dueText("drop when 1;");
        dueText("drop when 1 and 1;");
        dueText("drop when 1 < 2 and 3 = 4 and 5 + 6;");
        dueText("drop when and 1;", NONE_OR_MISPLACED, 10);
        dueText("drop when 1 and;", NONE_OR_MISPLACED, 15);
        dueText("drop when 1 and and 1;", NONE_OR_MISPLACED, 16);
    }

    private void comparisons() {
        sheet.says("TEST: SUM [ < SUM or = SUM ].");
        dueText("drop when 1 < 2;");
        dueText("drop when 1 = 2;");
        for (String first : List.of("<", "=")) {
            for (String second : List.of("<", "=")) {
                dueText("drop when 1 " + first + " 2 " + second + " 3;", NONE_OR_MISPLACED, 16);
                dueText("drop when (1 " + first + " 2) " + second + " 3;");
                dueText("drop when 1 " + first + " 2 and 3 " + second + " 4;");
            }
        }
        dueText("drop when < 2;", NONE_OR_MISPLACED, 10);
        dueText("drop when 1 <;", NONE_OR_MISPLACED, 13);
    }

    private void sums() {
        sheet.says("SUM: PART { + or - PART }.");
        dueText("drop when 1 + 2;");
        dueText("drop when 1 - 2 + 3 - 4;");
        dueText("drop when + 2;", NONE_OR_MISPLACED, 10);
        dueText("drop when - 2;", NONE_OR_MISPLACED, 10);
        dueText("drop when 1 +;", NONE_OR_MISPLACED, 13);
        dueText("drop when 1 + - 2;", NONE_OR_MISPLACED, 14);
        // From the left: 9 - 4 - 3 is 2, not 8.
        dueValue("9 - 4 - 3", 2);
        dueValue("9 - 4 + 3", 8);
        // A sum goes ahead of a comparison, that ahead of "and".
        dueValue("1 + 1 < 3", 1);
        dueValue("3 < 1 + 1", 0);
        dueValue("2 and 1 < 2", 1);
    }

    private static List<String> allParts() {
        return List.of("7", "minute", "warmth", "told", "rise", "fire", "drum", "grams", "(1)");
    }

    private void parts() {
        sheet.says("PART: N, minute, warmth, told, rise, fire, drum, grams, ( E ); 5 within one another.");
        for (String part : allParts()) {
            for (int within = 0; within <= 6; within++) {
                String signs = "drop when " + "(".repeat(within) + part + ")".repeat(within) + ";";
                // (1) is two PARTS by itself: the 1 is within its bracket.
                int tooDeep = part.equals("(1)") && within == 4 ? 1 : 0;
                if (within + tooDeep < 5) {
                    dueText(signs);
                } else {
                    dueText(signs, TOO_MANY, 15);
                }
            }
        }
        // One beside the other is not within the other.
        dueText("drop when ((((1)))) + ((((2)))) - ((((3)))) < ((((4)))) and ((((5))));");
        dueText("drop when (1 + (2 + (3 + (4 + 5) + 6) + 7) + 8) + 9;");
        // In each of the five all three sides wait for the next one: 1 and 1 < 1 + ( .. ).
        String waiting = "1 and 1<1+(".repeat(4);
        dueMinutes("drop when " + waiting + "1 and 4<1+minute" + ")".repeat(4) + ";", 4);
        dueText("drop when ();", NONE_OR_MISPLACED, 11);
        dueText("drop when (1;", NONE_OR_MISPLACED, 12);
        dueText("drop when 1);", NONE_OR_MISPLACED, 11);
        dueText("drop when when;", NONE_OR_MISPLACED, 10);
        dueText("drop when drop;", NONE_OR_MISPLACED, 10);
    }

    private void anyMore() {
        sheet.says("(The { } are for \"any more\".)");
        // As many as the tape can hold: "drop when 1" and ";" leave 588 signs.
        dueText("drop when 1" + "+1".repeat(294) + ";");
        dueText("drop when 1" + "-1".repeat(294) + ";");
        dueText("drop when 1" + "and 1".repeat(117) + ";");
        dueMinutes("drop when 1" + "+1".repeat(280) + " = 278 + minute;", 3);
        dueMinutes("drop when 1" + "and 1".repeat(115) + "and minute;", 1);
        dueMinutes("drop when minute" + " and 1".repeat(95) + ";", 1);
    }

    private void amounts() {
        sheet.says("N of fire, drum 0 .. 9.");
        for (String name : List.of("fire", "drum")) {
            dueText(name + " -1 when 1;", NONE_OR_MISPLACED, 5);
            for (int n = 0; n <= 9; n++) {
                dueText(name + " " + n + " when 1;");
            }
            dueText(name + " 10 when 1;", TOO_HIGH, 5);
            dueText(name + " 11 when 1;", TOO_HIGH, 5);
            dueText(name + " 0009 when 1;");
        }
    }

    // ---- faults

    private void places() {
        sheet.says("FAULTS, kind + 16 * the place (from 0) of a token, the end being one at the text's length:");
        dueText("?", NONE_OR_MISPLACED, 0);
        dueText(" ?", NONE_OR_MISPLACED, 1);
        dueText(" ".repeat(598) + "?", NONE_OR_MISPLACED, 598);
        dueText(" ".repeat(599) + "?", NONE_OR_MISPLACED, 599);
        dueText(" ".repeat(600) + "?");
        dueText(" ".repeat(596) + "drop", NONE_OR_MISPLACED, 600);
        dueText(" ".repeat(595) + "drop", NONE_OR_MISPLACED, 599);
        dueText(" ".repeat(595) + "fire 10", NONE_OR_MISPLACED, 600);
        dueText(" ".repeat(593) + "fire 10", TOO_HIGH, 598);
        // A token in the middle is told at its first sign.
        dueText("drop when 1; fires 1 when 1;", NONE_OR_MISPLACED, 13);
        // The end stands at the text's length, blanks behind the last token counted.
        String whole = "fire 1 when (minute + 1 < 2) and 3;";
        dueText(whole);
        dueText(whole + "   ");
        for (int end : new int[] {4, 6, 11, 13, 19, 21, 23, 25, 27, 28, 32, 34}) {
            dueText(whole.substring(0, end), NONE_OR_MISPLACED, end);
            dueText(whole.substring(0, end) + " \n", NONE_OR_MISPLACED, end + 2);
        }
    }

    private void firstAndLeast() {
        sheet.says("of the first token from the left that is wrong the least:");
        // The first of two that are wrong, whatever the kinds.
        dueText("fire 10 when ?;", TOO_HIGH, 5);
        dueText("fire ? when (((((1", NONE_OR_MISPLACED, 5);
        dueText("drop when (((((1 ?", TOO_MANY, 15);
        dueText("drop when ?; fire 10 when 1;", NONE_OR_MISPLACED, 10);
        dueText("fire 11 when 1; fire 10 when 1;", TOO_HIGH, 5);
        dueText(LINE.repeat(16) + "fire 10 ?", TOO_MANY, 192);
        dueText("fire 10 when 1;" + LINE.repeat(16), TOO_HIGH, 5);
        // The least of two kinds of one token: a NUMBER above 9 that is none; what can't begin a 17th line or a PART.
        dueText("fire 10000 when 1;", NONE_OR_MISPLACED, 5);
        dueText(LINE.repeat(16) + "?", NONE_OR_MISPLACED, 192);
        dueText(LINE.repeat(16) + "when", NONE_OR_MISPLACED, 192);
        dueText(LINE.repeat(16) + "10", NONE_OR_MISPLACED, 192);
        dueText("drop when (((((?", NONE_OR_MISPLACED, 15);
        dueText("drop when (((((;", NONE_OR_MISPLACED, 15);
        dueText("drop when (((((12345", NONE_OR_MISPLACED, 15);
        dueText("drop when (((((", NONE_OR_MISPLACED, 15);
        dueText("drop when ((((()", NONE_OR_MISPLACED, 15);
    }

    /** Behind these signs just these tokens can stand; every other one is wrong there, the end too if it is not told. */
    private void dueNext(String ahead, String... canStand) {
        Set<String> can = Set.of(canStand);
        for (String token : Arrays.asList("fire", "drum", "drop", "when", "and", "minute", "warmth", "told", "rise", "grams",
                "5", "(", ")", "<", "=", "+", "-", ";", "word", "wordsandmore", "12345", "?", "A", "")) {
            // What can stand leads on to the end, which is wrong there unless a line just ended.
            int behind = token.isEmpty() || token.equals(";") ? 0 : NONE_OR_MISPLACED + 16 * (ahead + token).length();
            House x = sheet.house();
            x.due(can.contains(token) ? behind : NONE_OR_MISPLACED + 16 * ahead.length(), x.read(ahead + token));
        }
    }

    private void cannotStand() {
        sheet.says("1 it is none, or can't stand there;");
        String[] part = {"minute", "warmth", "told", "rise", "fire", "drum", "grams", "5", "("};
        dueNext("", "fire", "drum", "drop", "");
        dueNext("drop when 1; ", "fire", "drum", "drop", "");
        dueNext("fire ", "5");
        dueNext("drum ", "5");
        dueNext("drop ", "when");
        dueNext("fire 1 ", "when");
        dueNext("drum 9 ", "when");
        for (String ahead : List.of("drop when ", "fire 1 when ", "drop when 1 and ", "drop when 1 + ", "drop when 1 - ",
                "drop when 1 < ", "drop when 1 = ", "drop when (", "drop when ((((", "drop when 1 < 2 + (")) {
            dueNext(ahead, part);
        }
        String[] behindSum = {"and", "<", "=", "+", "-", ";"};
        for (String ahead : List.of("drop when 1 ", "drop when minute ", "drop when (1) ", "drop when 1 + 2 ",
                "drop when (1 < 2) ", "drop when 1 < 2 and 3 ", "drum 0 when fire ")) {
            dueNext(ahead, behindSum);
        }
        String[] behindSecondSum = {"and", "+", "-", ";"};
        for (String ahead : List.of("drop when 1 < 2 ", "drop when 1 = 2 ", "drop when 1 < (2 = 3) ",
                "drop when 1 < 2 + 3 ", "drop when 1 and 2 = 3 ")) {
            dueNext(ahead, behindSecondSum);
        }
        dueNext("drop when (1 ", "and", "<", "=", "+", "-", ")");
        dueNext("drop when (1 = 2 ", "and", "+", "-", ")");
        dueNext("drop when (1 = 2 and 3 ", "and", "<", "=", "+", "-", ")");
        dueNext("drop when 1 = (2 ", "and", "<", "=", "+", "-", ")");
    }

    private void tooHigh() {
        sheet.says("4 a NUMBER of fire, drum above 9;");
        for (String name : List.of("fire", "drum")) {
            dueText(name + " 8 when 1;");
            dueText(name + " 9 when 1;");
            dueText(name + " 10 when 1;", TOO_HIGH, 5);
            dueText(name + " 9999 when 1;", TOO_HIGH, 5);
            dueText(name + " 0010", TOO_HIGH, 5);
            dueText(LINE + " " + name + "\n10", TOO_HIGH, 18);
        }
        // Within E a NUMBER may be above 9.
        dueText("fire 9 when fire = 10 and 9999;");
    }

    private void tooManyLines() {
        sheet.says("5 a 17th line (at its first token),");
        dueText(LINE.repeat(15) + "fire 1 when 1;");
        dueText(LINE.repeat(16));
        dueText(LINE.repeat(16) + " \n ");
        for (String name : List.of("fire", "drum", "drop")) {
            dueText(LINE.repeat(15) + name, NONE_OR_MISPLACED, 184);
            dueText(LINE.repeat(16) + name, TOO_MANY, 192);
            dueText(LINE.repeat(16) + " \n " + name + " when 1;", TOO_MANY, 195);
        }
        dueText(LINE.repeat(18), TOO_MANY, 192);
    }

    private void tooDeep() {
        sheet.says("a PART within 5 others.");
        for (String part : allParts()) {
            if (!part.equals("(1)")) {
                dueText("drop when ((((" + part + "))));");
            }
            dueText("drop when (((((" + part + ")))));", TOO_MANY, 15);
        }
        dueText("drop when ((((((", TOO_MANY, 15);
        // Each bracket that ends leaves room for another one.
        dueText("drop when ((((1) + (2)) + (3 + (4))) + 5);");
        dueText("drop when ((((1) + (2)) + ((3 + (4)))) + 5);", TOO_MANY, 33);
        dueText("drop when 1 + (1 < 1 + (1 and 1 + (1 = 1 + (1))));");
        dueText("drop when 1 + (1 < 1 + (1 and 1 + (1 = 1 + ((1)))));", TOO_MANY, 45);
    }

    // ---- what the names stand for

    private void warmthAndTold() {
        sheet.says("warmth: W; told: the CURVE's of this MINUTE;");
        int[] warmth = {200, 206, 212, 218};
        for (int minute = 0; minute < warmth.length; minute++) {
            dueMinutes("drop when warmth = " + warmth[minute] + ";", minute);
        }
        House x = sheet.house().lots(1);
        for (int minute = 0; minute < 20; minute++) {
            x.due(true, x.curve(minute, 381 + minute));
        }
        for (int minute = 0; minute < 20; minute++) {
            x.due(0, x.read("drop when told=" + (381 + minute) + ";"));
            x.due(minute, x.roast(0, 100));
            x.due(minute, x.roasted(0));
        }
        x.due(0, x.read("drop when told=380;"));
        x.due(20, x.roast(0, 100));
        x.due(20, x.roasted(0));
    }

    private void rise() {
        sheet.says("rise: by how much W grew in the MINUTE ahead (0 in the first);");
        dueMinutes("drop when rise = 0;", 0);
        dueMinutes("drop when rise < 0;", 20);
        dueMinutes("drop when 0 < rise;", 1);
        dueMinutes("drop when rise = 6;", 1);
        // 200 - 9 - 9, and then 182 - 8 - 9.
        dueMinutes("fire 0 when 1; drum 9 when 1; drop when rise = 0 - 18;", 1);
        dueMinutes("fire 0 when 1; drum 9 when 1; drop when rise = 0 - 17;", 2);
        // From 384 W grew by 16 to 400, and then by 0; from 20 by 0.
        dueMinutes("fire 9 when 1; drum 0 when 1; drop when rise = 16;", 9);
        dueMinutes("fire 9 when 1; drum 0 when 1; drop when minute and rise = 0;", 10);
        dueMinutes("fire 0 when 1; drum 9 when 1; drop when minute and rise = 0;", 15);
        // It is 0 in the first MINUTE of the next ROAST, too.
        House x = sheet.house().lots(1);
        x.due(0, x.read("drop when minute = 3; drop when minute = 0 and rise - 0;"));
        for (int bag = 0; bag < 3; bag++) {
            x.due(bag, x.roast(0, 100));
            x.due(3, x.roasted(0));
        }
    }

    private void fireAndDrum() {
        sheet.says("fire, drum as they are;");
        for (int n : new int[] {0, 1, 8, 9}) {
            dueMinutes("fire " + n + " when 1; drop when fire = " + n + ";", 0);
            dueMinutes("drum " + n + " when 1; drop when drum = " + n + ";", 0);
            dueMinutes("drop when fire = " + n + "; fire " + n + " when 1;", 1);
            dueMinutes("drop when drum = " + n + "; drum " + n + " when minute = 4;", 5);
        }
        dueMinutes("drop when fire = 5 and drum = 5;", 0);
    }

    private void grams() {
        sheet.says("grams: of green.");
        String[] greens = {"1", "2", "300", "9999 + 9999 + 1", "9999 + 9999 + 2"};
        int[] held = {1, 2, 300, 19999, 20000};
        House x = sheet.house().lots(1);
        for (int i = 0; i < held.length; i++) {
            x.due(0, x.read("drop when grams = " + greens[i] + ";"));
            x.roast(0, held[i]);
            x.due(0, x.roasted(0));
            x.roast(0, held[i] == 1 ? 2 : held[i] - 1);
            x.due(20, x.roasted(0));
        }
        // Not those of the lot that are left, and not those that come out.
        House y = sheet.house();
        y.lot(500, 5, 5, 5, 5);
        y.due(0, y.read("drop when grams = 500; drop when grams = 400; drop when grams = 95; drop when grams = 87;"));
        y.due(0, y.roast(0, 100));
        y.due(20, y.roasted(0));
    }

    private void and() {
        sheet.says("\"and\": 1 if both sides are not 0.");
        String[] values = {"0 - 2", "0 - 1", "0", "1", "2", "9999"};
        for (int left = 0; left < values.length; left++) {
            for (int right = 0; right < values.length; right++) {
                boolean both = left != 2 && right != 2;
                dueValue("(" + values[left] + ") and (" + values[right] + ")", both ? 1 : 0);
            }
        }
        dueValue("2 and 3 and 4", 1);
        dueValue("0 and 3 and 4", 0);
        dueValue("2 and 0 and 4", 0);
        dueValue("2 and 3 and 0", 0);
    }

    private void lessAndSame() {
        sheet.says("<, = tell 1 or 0.");
        for (int by = -1; by <= 1; by++) {
            dueValue((5 + by) + " < 5", by < 0 ? 1 : 0);
            dueValue((5 + by) + " = 5", by == 0 ? 1 : 0);
            dueValue("minute < minute + 1 - " + (1 + by), by < 0 ? 1 : 0);
        }
        dueValue("0 - 1 < 0", 1);
        dueValue("0 < 0 - 1", 0);
        dueValue("0 - 9999 < 9999", 1);
        dueValue("9999 < 0 - 9999", 0);
        dueValue("0 - 1 = 1", 0);
    }
}
