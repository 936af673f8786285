import java.util.List;

/** The boundary cases of promises 18 to 21 (Terms III): feed, end, rules, fault. */
public final class RuleEdgesTest {
    private static final Due D = new Due("RuleEdgesTest");
    private static final int MIN = Integer.MIN_VALUE;
    private static final int MAX = Integer.MAX_VALUE;

    public static void main(String[] args) {
        feedToFourHundred();
        feedBeyondFourHundred();
        highestByteFirst();
        feedBehindTheTape();
        endWithinTheTape();
        endBeyondTheTape();
        endBelowZero();
        emptyTape();
        blanksAlone();
        tapeIsEmptyThen();
        fourHundredBytes();
        blanksBetweenTokens();
        longestRows();
        bytesBesideLettersAndDigits();
        numbersToAThousand();
        numbersOfTests();
        numbersThatWrap();
        rationsToAHundred();
        twentyRules();
        asManyTestsAsFit();
        faultAtEveryToken();
        everyTokenEverywhere();
        faultAtTheEnd();
        rulesStay();
        faultOfTheLatest();
        restAndBound();
        strictTests();
        greatestRation();
        andBindsCloser();
        D.end();
    }

    private static void feedToFourHundred() {
        D.sentence("18: Twenty bytes come behind the TAPE: how many it has");
        WinterStation x = new WinterStation();
        for (int n = 20; n <= 400; n += 20) {
            D.due("feed", x.feed(0, 0, 0, 0, 0), n);
            D.due("count(10)", x.count(10), n);
        }
        D.due("status() is not touched", x.status(), 0);
    }

    private static void feedBeyondFourHundred() {
        D.sentence("18: NONE, if there would be more than 400");
        WinterStation x = new WinterStation();
        Due.tape(x, "rest 7" + " ".repeat(394));
        D.due("feed at 400", x.feed(MAX, MAX, MAX, MAX, MAX), -1);
        D.due("count(10)", x.count(10), 400);
        D.due("end(381)", x.end(381), 381);
        D.due("feed at 381", x.feed(MAX, MAX, MAX, MAX, MAX), -1);
        D.due("count(10)", x.count(10), 381);
        D.due("end(380)", x.end(380), 380);
        D.due("feed at 380", x.feed(0x20202020, 0x20202020, 0x20202020, 0x20202020, 0x2020203b), 400);
        D.due("feed at 400", x.feed(0, 0, 0, 0, 0), -1);
        D.due("status() is not touched", x.status(), 0);
        D.refused(x, "rules() of what came alone", x.rules(), -6);
        D.due("the last byte was the last fed", x.fault(), 400);
        D.due("feed behind it", x.feed(0, 0, 0, 0, 0), 20);
    }

    private static void highestByteFirst() {
        D.sentence("18: four of each number, the highest first");
        for (int at = 0; at < 20; at++) {
            int[] n = {0x20202020, 0x20202020, 0x20202020, 0x20202020, 0x20202020};
            for (int one : new int[] {0, 31, 33, 127, 128, 255}) {
                int shift = 24 - 8 * (at % 4);
                n[at / 4] = 0x20202020 & ~(255 << shift) | one << shift;
                WinterStation x = new WinterStation();
                x.feed(n[0], n[1], n[2], n[3], n[4]);
                D.refused(x, "rules() with " + one + " at " + at, x.rules(), -6);
                D.due("its place", x.fault(), at);
            }
        }
        WinterStation y = new WinterStation();
        y.feed(0x72657374, 0x31323334, 0x3b636f6c, 0x64353637, 0x20202020);
        D.refused(y, "rest1234;cold567", y.rules(), -6);
        D.due("1234 is too great", y.fault(), 4);
    }

    private static void feedBehindTheTape() {
        D.sentence("18: behind the TAPE, whatever its length");
        WinterStation x = new WinterStation();
        for (int n = 1; n <= 19; n += 3) {
            Due.tape(x, " ".repeat(n));
            D.due("feed", x.feed(0x72657374, 0x20202037, 0x20202020, 0x20202020, 0x20202020), n + 20);
            D.taken(x, "rules()", x.rules(), 1);
            D.due("rest", x.count(11), 7);
            Due.tape(x, " ".repeat(n));
            x.feed(0x3b202020, 0x20202020, 0x20202020, 0x20202020, 0x20202020);
            D.refused(x, "rules()", x.rules(), -6);
            D.due("fault()", x.fault(), n);
        }
    }

    private static void endWithinTheTape() {
        D.sentence("19: The TAPE has its first n bytes alone: n");
        WinterStation x = new WinterStation();
        D.due("end(0) of an empty one", x.end(0), 0);
        Due.tape(x, "rest 12;cold 34");
        D.due("end(15), all of it", x.end(15), 15);
        D.due("end(15) again", x.end(15), 15);
        D.due("end(6)", x.end(6), 6);
        D.due("count(10)", x.count(10), 6);
        D.taken(x, "rules() of rest 1", x.rules(), 1);
        D.due("rest", x.count(11), 1);
        Due.tape(x, "rest 12");
        D.due("end(0)", x.end(0), 0);
        D.due("count(10)", x.count(10), 0);
        D.taken(x, "rules() of nothing", x.rules(), 0);
        Due.tape(x, " ".repeat(400));
        D.due("end(400)", x.end(400), 400);
        D.due("end(399)", x.end(399), 399);
        D.due("end(1)", x.end(1), 1);
    }

    private static void endBeyondTheTape() {
        D.sentence("19: NONE, if it has not so many");
        WinterStation x = new WinterStation();
        D.due("end(1) of an empty one", x.end(1), -1);
        Due.tape(x, "rest 12");
        for (int n : new int[] {8, 20, 400, 401, MAX}) {
            D.due("end(" + n + ")", x.end(n), -1);
            D.due("count(10)", x.count(10), 7);
        }
        D.due("status() is not touched", x.status(), 0);
        D.taken(x, "rules()", x.rules(), 1);
        D.due("end(7): it is empty", x.end(7), -1);
        Due.tape(x, " ".repeat(400));
        D.due("end(401)", x.end(401), -1);
        D.due("count(10)", x.count(10), 400);
    }

    private static void endBelowZero() {
        D.sentence("19: NONE, or n is below 0");
        WinterStation x = new WinterStation();
        D.due("end(-1) of an empty one", x.end(-1), -1);
        Due.tape(x, "rest 12");
        for (int n : new int[] {-1, -7, MIN, MIN + 7}) {
            D.due("end(" + n + ")", x.end(n), -1);
            D.due("count(10)", x.count(10), 7);
        }
        D.taken(x, "rules()", x.rules(), 1);
        D.due("rest", x.count(11), 12);
        D.due("status() is not touched", x.status(), 0);
    }

    private static void emptyTape() {
        D.sentence("20: rules() of an empty TAPE");
        WinterStation x = new WinterStation();
        D.taken(x, "rules()", x.rules(), 0);
        D.due("fault()", x.fault(), -1);
        D.taken(x, "rules() again", x.rules(), 0);
        D.taken(x, "rest 5", Due.rules(x, "rest 5"), 1);
        D.taken(x, "rules()", x.rules(), 0);
        D.due("rules", x.count(6), 0);
        D.due("rest", x.count(11), 0);
    }

    private static void blanksAlone() {
        D.sentence("20: how many (blanks alone: none)");
        WinterStation x = new WinterStation();
        for (int n : new int[] {1, 2, 20, 399, 400}) {
            Due.rules(x, "rest 5");
            D.taken(x, n + " blanks", Due.rules(x, " ".repeat(n)), 0);
            D.due("fault()", x.fault(), -1);
            D.due("rules", x.count(6), 0);
            D.due("rest", x.count(11), 0);
        }
    }

    private static void tapeIsEmptyThen() {
        D.sentence("20: The TAPE, which is empty then");
        WinterStation x = new WinterStation();
        String[] texts = {"", " ", "rest 1", "no", " ".repeat(400), "n".repeat(400)};
        for (String text : texts) {
            Due.rules(x, text);
            D.due("count(10) behind [" + text + "]", x.count(10), 0);
            D.due("end(1)", x.end(1), -1);
            D.due("feed", x.feed(0, 0, 0, 0, 0), 20);
        }
    }

    private static void fourHundredBytes() {
        D.sentence("III: a TEXT of at most 400 bytes");
        WinterStation x = new WinterStation();
        D.taken(x, "a rule at its end", Due.rules(x, " ".repeat(394) + "rest 7"), 1);
        D.due("rest", x.count(11), 7);
        D.taken(x, "a rule at its beginning", Due.rules(x, "cold 8" + " ".repeat(394)), 1);
        D.due("bound", x.count(12), -8);
        D.taken(x, "a long number", Due.rules(x, "rest" + "0".repeat(392) + "1000"), 1);
        D.due("rest", x.count(11), 1000);
        fault("rest" + "9".repeat(396), 4);
        fault("rest 1" + " ".repeat(393) + ";", 400);
        fault("a".repeat(400), 0);
        fault(";".repeat(400), 0);
        fault(" ".repeat(399) + "7", 399);
        fault(" ".repeat(398) + "if", 400);
    }

    private static void blanksBetweenTokens() {
        D.sentence("III: any blanks (32) between TOKENS");
        String[] texts = {"rest 4;cold 5;if wind<6and cold>-7or hour<8ration 9",
            " rest  4 ; cold  5 ; if  wind < 6 and  cold > - 7 or  hour < 8 ration  9 ",
            "rest4;cold5;if wind<6 and cold>-7 or hour<8 ration9"};
        for (String text : texts) {
            WinterStation x = new WinterStation();
            D.taken(x, text, Due.rules(x, text), 3);
            D.due("rest", x.count(11), 4);
            D.due("bound", x.count(12), -5);
            D.due("ration", x.hour(0, 3), 9);
        }
        fault("re st 4", 0);
        fault("rest 1 0", 7);
        fault("if wind<1 0 ration 5", 10);
        for (char one : new char[] {0, 9, 10, 13, 31, 33, 160}) {
            fault("rest" + one + "4", 4);
            fault(one + "rest 4", 0);
            fault("rest 4" + one, 6);
        }
    }

    private static void longestRows() {
        D.sentence("III: TOKENS (longest rows of letters a .. z, of digits, single other bytes)");
        fault("rests 4", 0);
        fault("arest 4", 0);
        fault("res 4", 0);
        fault("restcold 4", 0);
        fault("rest 4;;rest 5", 7);
        fault("if wind<<5 ration 1", 8);
        fault("if wind<>5 ration 1", 8);
        fault("if wind<--5 ration 1", 9);
        fault("if windy<5 ration 1", 3);
        fault("if win<5 ration 1", 3);
        fault("ifwind<5 ration 1", 0);
        fault("if wind<5 andcold<5 ration 1", 10);
        fault("if wind<5 an cold<5 ration 1", 10);
        fault("if wind<5 o cold<5 ration 1", 10);
        fault("if wind<5 rationx 1", 10);
        fault("if wind<5 ratio 1", 10);
        fault("rest 5000", 5);
        fault("rest 5x", 6);
        WinterStation x = new WinterStation();
        D.taken(x, "digits end a word, letters a number",
                Due.rules(x, "if wind<5or cold<6and hour<7ration8;rest9"), 2);
        D.due("rest", x.count(11), 9);
    }

    private static void bytesBesideLettersAndDigits() {
        D.sentence("III: letters a .. z, digits, all other bytes");
        for (char one : new char[] {'`', '{', '@', 'A', 'R', 'Z', '[', '_', 127, 128, 225, 255}) {
            fault("rest" + one + " 4", 4);
            fault(one + "rest 4", 0);
        }
        for (char one : new char[] {'/', ':', '.', ',', '+', '-', 178, 255}) {
            fault("rest " + one + "4", 5);
            fault("rest 4" + one, 6);
        }
        fault("REST 4", 0);
        fault("if wind<5 ration -1", 17);
        fault("if wind=5 ration 1", 7);
        fault("if wind<+5 ration 1", 8);
        fault("if wind<5,cold<5 ration 1", 9);
        fault("(rest 4)", 0);
        fault("rest 4:rest 5", 6);
        fault("rest 4,rest 5", 6);
    }

    private static void numbersToAThousand() {
        D.sentence("III: NUMBERS to 1000");
        for (String word : new String[] {"rest", "cold"}) {
            for (String number : new String[] {"0", "00", "1", "999", "1000", "0001000"}) {
                WinterStation x = new WinterStation();
                D.taken(x, word + " " + number, Due.rules(x, word + " " + number), 1);
                int n = Integer.parseInt(number);
                D.due("rest of " + number, x.count(11), word.equals("rest") ? n : 0);
                D.due("bound of " + number, x.count(12), word.equals("cold") ? -n : -90);
            }
            fault(word + " 1001", 5);
            fault(word + " 01001", 5);
            fault(word + " 9999", 5);
            fault(word + " 10000", 5);
            fault(word + " -1", 5);
        }
    }

    private static void numbersOfTests() {
        D.sentence("III: [\"-\"] NUMBER, to 1000");
        for (int number : new int[] {0, 1, 1000}) {
            boolean isZero = number == 0;
            WinterStation x = new WinterStation();
            D.taken(x, "> " + number, Due.rules(x, "if wind>" + number + " ration 5"), 1);
            D.due("0 is not above", x.hour(0, 3), 0);
            D.taken(x, "> -" + number, Due.rules(x, "if wind>-" + number + " ration 5"), 1);
            D.due("0 is above, but for 0", x.hour(0, 3), isZero ? 0 : 5);
            D.taken(x, "< " + number, Due.rules(x, "if wind<" + number + " ration 5"), 1);
            D.due("0 is below, but for 0", x.hour(0, 3), isZero ? 0 : 5);
            D.taken(x, "< -" + number, Due.rules(x, "if wind<-" + number + " ration 5"), 1);
            D.due("0 is not below", x.hour(0, 3), 0);
        }
        for (String word : new String[] {"wind", "cold", "hour"}) {
            fault("if " + word + "<1001 ration 1", 8);
            fault("if " + word + ">-1001 ration 1", 9);
        }
    }

    private static void numbersThatWrap() {
        D.sentence("III: NUMBERS to 1000, too long for an int or a long");
        for (String number : new String[] {"2147483647", "2147483648", "4294967295", "4294967296", "4294967301",
            "4294968296", "9223372036854775808", "18446744073709551616", "18446744073709551621",
            "00000000000000000001001"}) {
            fault("rest " + number, 5);
            fault("cold " + number, 5);
            fault("if wind<" + number + " ration 1", 8);
            fault("if wind<-" + number + " ration 1", 9);
            fault("if wind<1 ration " + number, 17);
        }
    }

    private static void rationsToAHundred() {
        D.sentence("III: NUMBERS of ration to 100");
        for (int ration : new int[] {0, 1, 99, 100}) {
            WinterStation x = new WinterStation();
            D.taken(x, "ration " + ration, Due.rules(x, "if wind<1 ration " + ration), 1);
            D.due("ration", x.hour(0, 3), ration);
        }
        fault("if wind<1 ration 101", 17);
        fault("if wind<1 ration 0101", 17);
        fault("if wind<1 ration 1000", 17);
        fault("if wind<1 ration 1001", 17);
        fault("if wind<1 ration -5", 17);
    }

    private static void twentyRules() {
        D.sentence("III: 20 RULES at most (FAULT at the TOKEN that begins one more)");
        String nineteen = "rest 1;".repeat(18) + "rest 1";
        String twenty = nineteen + ";cold 2";
        WinterStation x = new WinterStation();
        D.taken(x, "19", Due.rules(x, nineteen), 19);
        D.due("count(6)", x.count(6), 19);
        D.taken(x, "20", Due.rules(x, twenty), 20);
        D.due("count(6)", x.count(6), 20);
        D.due("bound", x.count(12), -2);
        int length = twenty.length();
        fault(twenty + ";rest 3", length + 1);
        fault(twenty + " ;  cold 3", length + 4);
        fault(twenty + ";if wind<1 ration 2", length + 1);
        fault(twenty + ";rest 1001", length + 1);
        fault(twenty + ";no", length + 1);
        fault(twenty + ";;", length + 1);
        fault(twenty + ";", length + 1);
        fault(twenty + " ; ", length + 3);
        fault(twenty + " cold 3", length + 1);
        String ifs = "if wind<1ration 1;".repeat(19) + "if wind<1ration 1";
        D.taken(x, "20 ifs", Due.rules(x, ifs), 20);
        fault(ifs + ";if wind<1ration 1", ifs.length() + 1);
    }

    // A test more takes nine bytes at least, so that 400 have no room for 60 of them.
    private static void asManyTestsAsFit() {
        D.sentence("III: TESTS, as many as 400 bytes can have");
        WinterStation x = new WinterStation();
        String text = "if hour<0" + "or hour<0".repeat(41) + "or hour<9" + "ration 6 ";
        D.due("bytes of 43 tests", text.length(), 396);
        D.taken(x, "43 tests, the last holds", Due.rules(x, text), 1);
        D.due("hour 8", x.hour(8, 3), 6);
        D.due("hour 9", x.hour(9, 3), 0);
        text = "if hour<9" + "and hour<9".repeat(37) + "and hour<8" + "ration 7";
        D.taken(x, "39 tests, all hold but for one", Due.rules(x, text), 1);
        D.due("hour 7", x.hour(7, 3), 7);
        D.due("hour 8", x.hour(8, 3), 0);
        String unfinished = "if hour<0" + "or hour<0".repeat(43);
        fault(unfinished, 396);
        fault(unfinished + "or x", 398 + 1);
    }

    private static void faultAtEveryToken() {
        D.sentence("III: FAULT: the first TOKEN that can't go on there");
        String[] tokens = {"rest", "5", ";", "cold", "6", ";", "if", "wind", "<", "-", "7", "and", "cold", ">", "8",
            "or", "hour", "<", "9", "ration", "10", ";", "rest", "11"};
        for (int wrong = 0; wrong < tokens.length; wrong++) {
            StringBuilder text = new StringBuilder();
            int place = 0;
            for (int i = 0; i < tokens.length; i++) {
                place = i == wrong ? text.length() : place;
                text.append(i == wrong ? "?" : tokens[i]).append(' ');
            }
            fault(text.toString(), place);
        }
        WinterStation x = new WinterStation();
        D.taken(x, "without a wrong one", Due.rules(x, String.join(" ", tokens)), 4);
    }

    // What goes ahead, and which tokens can go on there; each other one is the fault.
    private static final String[][] GOES_ON = {
        {"", "rest", "cold", "if"},
        {"rest 5;", "rest", "cold", "if"},
        {"rest ", "7", "101", "1000"},
        {"cold ", "7", "101", "1000"},
        {"if ", "wind", "cold", "hour"},
        {"if wind ", "<", ">"},
        {"if hour<", "-", "7", "101", "1000"},
        {"if cold>-", "7", "101", "1000"},
        {"if cold>5 ", "and", "or", "ration"},
        {"if wind<5 and ", "wind", "cold", "hour"},
        {"if wind<5 or ", "wind", "cold", "hour"},
        {"if wind<5 ration ", "7"},
        {"rest 5 ", ";"},
        {"cold 5 ", ";"},
        {"if wind<5 ration 5 ", ";"}};
    private static final String[] TOKENS = {"rest", "cold", "if", "ration", "and", "or", "wind", "hour", "<", ">", "-",
        ";", "7", "101", "1000", "1001", "light", "i", "a", "=", "+", "!", "A"};

    private static void everyTokenEverywhere() {
        D.sentence("III: FAULT: the first TOKEN that can't go on there, of all TOKENS at all places");
        for (String[] row : GOES_ON) {
            List<String> canGoOn = List.of(row).subList(1, row.length);
            for (String token : TOKENS) {
                // The last byte can go on nowhere, so that a token that can leaves the fault to it.
                String text = row[0] + token + "?";
                fault(text, canGoOn.contains(token) ? text.length() - 1 : row[0].length());
            }
        }
    }

    private static void faultAtTheEnd() {
        D.sentence("III: (the end's: the TEXT's length)");
        String[] parts = {"rest", "cold", "rest 5;", "if", "if wind", "if wind<", "if wind<-", "if wind<5",
            "if wind<5 and", "if wind<5 or", "if wind<5 and cold", "if wind<5 ration"};
        for (String part : parts) {
            fault(part, part.length());
            fault(part + " ", part.length() + 1);
            fault("  " + part + "   ", part.length() + 5);
        }
    }

    private static void rulesStay() {
        D.sentence("20: -6: they stay, FAULT is told");
        WinterStation x = new WinterStation();
        D.refused(x, "without any", Due.rules(x, "rest 5;cold 6;"), -6);
        D.due("no rules", x.count(6), 0);
        D.due("no rest", x.count(11), 0);
        D.due("no bound", x.count(12), -90);
        D.taken(x, "three", Due.rules(x, "rest 5;cold 6;if wind<1 ration 7"), 3);
        String[] wrong = {";", "rest 8;", "cold 9;no", "if wind<1 ration 9;x", "if wind<1 ration 101",
            "rest 8;cold 9;if wind<1 ration 10;if cold<1 ration 11;!"};
        for (String text : wrong) {
            D.refused(x, text, Due.rules(x, text), -6);
            D.due("rules", x.count(6), 3);
            D.due("rest", x.count(11), 5);
            D.due("bound", x.count(12), -6);
            D.due("ration", x.hour(0, 3), 7);
        }
        D.taken(x, "one", Due.rules(x, "if wind<1 ration 1"), 1);
        D.due("none of the old", x.count(11), 0);
        D.due("none of the old", x.count(12), -90);
        D.due("none of the old", x.hour(0, 3), 1);
    }

    private static void faultOfTheLatest() {
        D.sentence("21: FAULT of the latest rules(): its place; NONE without");
        WinterStation x = new WinterStation();
        D.due("ahead of any", x.fault(), -1);
        Due.rules(x, "rest 5;x");
        D.due("fault()", x.fault(), 7);
        D.due("fault() again", x.fault(), 7);
        x.feed(0, 0, 0, 0, 0);
        x.end(3);
        x.go(1);
        x.go(0);
        D.due("other calls leave it", x.fault(), 7);
        D.due("status() is not touched", x.status(), -1);
        x.rules();
        D.due("place 0", x.fault(), 0);
        Due.rules(x, "rest 5");
        D.due("NONE again", x.fault(), -1);
        Due.rules(x, "rest");
        D.due("the end", x.fault(), 4);
        x.rules();
        D.due("NONE again, of an empty one", x.fault(), -1);
    }

    private static void restAndBound() {
        D.sentence("III: REST: of the last \"rest\", 0 without. BOUND: of the last \"cold\", -90 without");
        WinterStation x = new WinterStation();
        D.due("rest without", x.count(11), 0);
        D.due("bound without", x.count(12), -90);
        Due.rules(x, "cold 0;rest 1000;cold 1000;rest 0");
        D.due("the last rest", x.count(11), 0);
        D.due("the last cold", x.count(12), -1000);
        Due.rules(x, "cold 1000;rest 0;cold 0;rest 1000");
        D.due("the last rest", x.count(11), 1000);
        D.due("the last cold", x.count(12), 0);
        Due.rules(x, "if cold<5 ration 3");
        D.due("a test's cold is no bound", x.count(12), -90);
        D.due("rest without", x.count(11), 0);
    }

    private static void strictTests() {
        D.sentence("III: (\"<\" | \">\"), whose COND holds of its WEATHER");
        WinterStation x = new WinterStation();
        x.weather(30, 30, 60, false, -90);
        Object[][] due = {{"wind<60", 0}, {"wind<61", 1}, {"wind>60", 0}, {"wind>59", 1}, {"cold<-90", 0},
            {"cold<-89", 1}, {"cold>-90", 0}, {"cold>-91", 1}, {"hour<6", 0}, {"hour<7", 1}, {"hour>6", 0},
            {"hour>5", 1}};
        for (Object[] one : due) {
            Due.rules(x, "if " + one[0] + " ration 1");
            D.due(one[0] + " of wind 60, cold -90, hour 6", x.hour(30, 3), (Integer) one[1]);
        }
    }

    private static void greatestRation() {
        D.sentence("III: RATION: the greatest of the \"if\" RULES whose COND holds, 0 without");
        WinterStation x = new WinterStation();
        Due.rules(x, "if hour<3 ration 20;if hour<2 ration 100;if hour<4 ration 5;if hour>22 ration 0");
        int[] rations = {100, 100, 20, 5, 0};
        for (int h = 0; h < 5; h++) {
            D.due("ration of " + h, x.hour(h, 3), rations[h]);
        }
        D.due("ration of 23", x.hour(23, 3), 0);
        Due.rules(x, "rest 5");
        D.due("ration without", x.hour(0, 3), 0);
    }

    private static void andBindsCloser() {
        D.sentence("III: COND: AND {\"or\" AND}; AND: TEST {\"and\" TEST}");
        for (int bits = 0; bits < 8; bits++) {
            boolean a = (bits & 1) != 0;
            boolean b = (bits & 2) != 0;
            boolean c = (bits & 4) != 0;
            String[] tests = {a ? "wind<1" : "wind>0", b ? "cold<1" : "cold>0", c ? "hour<1" : "hour>0"};
            ration("if " + tests[0] + " or " + tests[1] + " and " + tests[2], a || b && c);
            ration("if " + tests[0] + " and " + tests[1] + " or " + tests[2], a && b || c);
            ration("if " + tests[0] + " and " + tests[1] + " and " + tests[2], a && b && c);
            ration("if " + tests[0] + " or " + tests[1] + " or " + tests[2], a || b || c);
        }
    }

    private static void ration(String cond, boolean holds) {
        WinterStation x = new WinterStation();
        D.taken(x, cond, Due.rules(x, cond + " ration 3"), 1);
        D.due(cond, x.hour(0, 3), holds ? 3 : 0);
    }

    private static void fault(String text, int place) {
        WinterStation x = new WinterStation();
        D.refused(x, "rules() of [" + text + "]", Due.rules(x, text), -6);
        D.due("fault() of [" + text + "]", x.fault(), place);
        D.due("count(6) of [" + text + "]", x.count(6), 0);
    }
}
