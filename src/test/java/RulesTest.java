import java.util.ArrayList;
import java.util.List;
import java.util.Random;

/** Promises 18 to 21: feed, end, rules, fault, and what rules do (RATION, REST, BOUND). */
public final class RulesTest {
    private static final Due D = new Due("RulesTest");

    public static void main(String[] args) {
        tape();
        bytesOfFeed();
        goodTexts();
        faults();
        rulesStay();
        manyRules();
        longTexts();
        rations();
        Random random = new Random(18);
        for (int round = 0; round < 6000; round++) {
            againstTable(random);
        }
        for (int round = 0; round < 300; round++) {
            againstWeather(random);
        }
        D.end();
    }

    private static void tape() {
        WinterStation x = new WinterStation();
        D.due("end(0)", x.end(0), 0);
        D.due("end(1) of an empty tape", x.end(1), -1);
        for (int n = 20; n <= 400; n += 20) {
            D.due("feed", x.feed(0, 0, 0, 0, 0), n);
        }
        D.due("one feed more", x.feed(0, 0, 0, 0, 0), -1);
        D.due("count(10)", x.count(10), 400);
        D.due("end(401)", x.end(401), -1);
        D.due("end(-1)", x.end(-1), -1);
        D.due("end(min)", x.end(Integer.MIN_VALUE), -1);
        D.due("end(max)", x.end(Integer.MAX_VALUE), -1);
        D.due("end(400)", x.end(400), 400);
        D.due("end(381)", x.end(381), 381);
        D.due("381 and 20 are too many", x.feed(0, 0, 0, 0, 0), -1);
        D.due("count(10)", x.count(10), 381);
        D.due("end(380)", x.end(380), 380);
        D.due("380 and 20 are not", x.feed(0, 0, 0, 0, 0), 400);
        D.due("end(7)", x.end(7), 7);
        D.due("count(10)", x.count(10), 7);
        D.due("status is not touched", x.status(), 0);
        x.take(10);
        x.feed(0, 0, 0, 0, 0);
        x.end(999);
        D.due("status is not touched", x.status(), -1);
        D.due("rules() of zeros", x.rules(), -6);
        D.due("the tape is empty then", x.count(10), 0);
    }

    private static void bytesOfFeed() {
        WinterStation x = new WinterStation();
        // "rest" is 114, 101, 115, 116.
        x.feed(0x72657374, 0x20203120, 0x3b202020, 0x72657374, 0x32202020);
        D.due("rest  1 ;   rest2", x.rules(), 2);
        D.due("rest", x.count(11), 2);
        x.feed(0x20202020, 0x20202020, 0x20202020, 0x20202020, 0x20202080);
        D.due("a byte of 128 is no blank", x.rules(), -6);
        D.due("its place", x.fault(), 19);
        x.feed(0x80202020, 0x20202020, 0x20202020, 0x20202020, 0x20202020);
        D.due("the highest comes first", x.rules(), -6);
        D.due("its place", x.fault(), 0);
    }

    private static void goodTexts() {
        WinterStation x = new WinterStation();
        String[] one = {"rest 0", "rest0", "  rest  1000  ", "cold1000", "rest 00000000000000000000001000",
            "if wind<5 ration 100", "if wind<5ration0", "if wind < - 5 ration 1", "if hour > 1000 ration 00100",
            "if wind<1 and cold>-1000 or hour<3 ration 5", "if wind<1or wind<2and wind<3ration5"};
        for (String text : one) {
            D.due(text, Due.rules(x, text), 1);
            D.due("no fault of " + text, x.fault(), -1);
            D.due("count(6) of " + text, x.count(6), 1);
        }
        D.due("blanks", Due.rules(x, "     "), 0);
        D.due("count(6)", x.count(6), 0);
        D.due("an empty text", Due.rules(x, ""), 0);
        D.due("status", x.status(), 0);
        D.due("last of a kind", Due.rules(x, "rest 5;cold 7;rest 3;cold 2"), 4);
        D.due("rest", x.count(11), 3);
        D.due("bound", x.count(12), -2);
        D.due("cold 1", Due.rules(x, "cold 1"), 1);
        D.due("rest is 0 without", x.count(11), 0);
        D.due("bound", x.count(12), -1);
        D.due("cold 1000", Due.rules(x, "cold 1000"), 1);
        D.due("bound", x.count(12), -1000);
        D.due("rest 9", Due.rules(x, "rest 9"), 1);
        D.due("bound is -90 without", x.count(12), -90);
    }

    private static void fault(String text, int place) {
        WinterStation x = new WinterStation();
        D.due("rules of " + text, Due.rules(x, text), -6);
        D.due("status of " + text, x.status(), -6);
        D.due("fault of " + text, x.fault(), place);
        D.due("tape of " + text, x.count(10), 0);
    }

    private static void faults() {
        fault(";", 0);
        fault(" rest", 5);
        fault("rest  ", 6);
        fault("rest 1001", 5);
        fault("rest 99999999999999999999", 5);
        fault("rest 4294967297", 5);
        fault("rest -1", 5);
        fault("cold 1001", 5);
        fault("cold wind", 5);
        fault("rest 1 2", 7);
        fault("rest 1 cold 2", 7);
        fault("rest 1;", 7);
        fault("rest 1; ", 8);
        fault("rest 1;;rest 2", 7);
        fault("rests 1", 0);
        fault("ifwind<5ration0", 0);
        fault("if wind<5 orwind<6 ration0", 10);
        fault("Rest 1", 0);
        fault("resT 1", 0);
        fault("\trest 1", 0);
        fault("rest\n1", 4);
        fault("rest 1\0", 6);
        fault("wind 1", 0);
        fault("hour 1", 0);
        fault("ration 1", 0);
        fault("if", 2);
        fault("if rest < 1 ration 1", 3);
        fault("if if < 1 ration 1", 3);
        fault("if wind", 7);
        fault("if wind 5", 8);
        fault("if wind ration 5", 8);
        fault("if wind and cold < 1 ration 5", 8);
        fault("if wind ; 5 ration 1", 8);
        fault("if wind - 5 ration 1", 8);
        fault("if and < 5 ration 1", 3);
        fault("if wind < rest 5 ration 1", 10);
        fault("if wind < ration 5", 10);
        fault("if wind < 5 wind cold < 1 ration 1", 12);
        fault("if wind < 5 - 1 ration 1", 12);
        fault("rest 1 < rest 2", 7);
        fault("rest 1 - rest 2", 7);
        fault("- 5", 0);
        fault("if wind = 5", 8);
        fault("if wind <", 9);
        fault("if wind <= 5", 9);
        fault("if wind <> 5", 9);
        fault("if wind < --5", 11);
        fault("if wind < - ration", 12);
        fault("if wind < 1001 ration 1", 10);
        fault("if wind < -1001 ration 1", 11);
        fault("if wind < 5", 11);
        fault("if wind < 5;", 11);
        fault("if wind < 5 rest", 12);
        fault("if wind < 5 and", 15);
        fault("if wind < 5 or", 14);
        fault("if wind < 5 and or cold < 1 ration 1", 16);
        fault("if wind < 5 and ration 1", 16);
        fault("if wind < 5 or ration 1", 15);
        fault("if wind < 5 ration", 18);
        fault("if wind < 5 ration -1", 19);
        fault("if wind < 5 ration 101", 19);
        fault("if wind < 5 ration 5 and", 21);
        fault("if wind < 5 ration 5 or wind < 6", 21);
        fault("if (wind < 5) ration 5", 3);
        fault("rest 1;if wind < 5 ration 5;hour 3", 28);
    }

    private static void rulesStay() {
        WinterStation x = new WinterStation();
        Due.rules(x, "rest 4;cold 30;if hour<12ration 20");
        D.due("rules that can't be", Due.rules(x, "rest 9;cold 10;if hour<12ration 90;no"), -6);
        D.due("fault", x.fault(), 35);
        D.due("fault again", x.fault(), 35);
        D.due("rest stays", x.count(11), 4);
        D.due("bound stays", x.count(12), -30);
        D.due("count(6) stays", x.count(6), 3);
        D.due("ration stays", x.hour(0, 3), 20);
        D.due("ration stays", x.hour(12, 3), 0);
        D.due("an empty text makes none", x.rules(), 0);
        D.due("fault is gone", x.fault(), -1);
        D.due("rest is gone", x.count(11), 0);
        D.due("bound is gone", x.count(12), -90);
        D.due("ration is gone", x.hour(0, 3), 0);
        D.due("count(6)", x.count(6), 0);
    }

    private static void manyRules() {
        WinterStation x = new WinterStation();
        StringBuilder text = new StringBuilder("rest 1");
        for (int i = 2; i <= 20; i++) {
            text.append(";rest ").append(i);
        }
        D.due("20 rules", Due.rules(x, text.toString()), 20);
        D.due("rest", x.count(11), 20);
        int length = text.length();
        fault(text + " ;  rest 21", length + 4);
        fault(text + ";", length + 1);
        fault(text + ";;", length + 1);
        fault(text + " cold", length + 1);
        StringBuilder ifs = new StringBuilder("if hour<1ration 1");
        for (int i = 2; i <= 20; i++) {
            ifs.append(";if hour<").append(i).append("ration ").append(i);
        }
        D.due("20 ifs", Due.rules(x, ifs.toString()), 20);
        D.due("ration of hour 0", x.hour(0, 3), 20);
        D.due("ration of hour 19", x.hour(19, 3), 20);
        D.due("ration of hour 20", x.hour(20, 3), 0);
    }

    private static void longTexts() {
        WinterStation x = new WinterStation();
        // 400 bytes have no room for 60 tests: these are about as many as there can be.
        StringBuilder text = new StringBuilder("if hour<0");
        while (text.length() + "or hour<9".length() + "ration 7".length() <= 400) {
            text.append("or hour<9");
        }
        text.append("ration 7");
        D.due("a long condition", Due.rules(x, text.toString()), 1);
        D.due("it holds", x.hour(8, 3), 7);
        D.due("it does not", x.hour(9, 3), 0);
        StringBuilder blanks = new StringBuilder();
        for (int i = 0; i < 400; i++) {
            blanks.append(' ');
        }
        D.due("400 blanks", Due.rules(x, blanks.toString()), 0);
        blanks.setCharAt(399, ';');
        D.due("399 blanks", Due.rules(x, blanks.toString()), -6);
        D.due("fault", x.fault(), 399);
        String digits = blanks.toString().replace(' ', '0').replace(';', '8');
        D.due("a long number", Due.rules(x, "rest" + digits.substring(4)), 1);
        D.due("rest", x.count(11), 8);
        D.due("signs alone", Due.rules(x, digits.replace('0', ';').replace('8', ';')), -6);
        D.due("fault", x.fault(), 0);
        D.due("letters alone", Due.rules(x, digits.replace('0', 'a').replace('8', 'z')), -6);
        D.due("fault", x.fault(), 0);
    }

    private static void rations() {
        WinterStation x = new WinterStation();
        x.weather(30, 30, 20, false, -20);
        Due.rules(x, "if wind>20 ration 10");
        D.due("not above", x.hour(30, 3), 0);
        Due.rules(x, "if wind>19 ration 10");
        D.due("above", x.hour(30, 3), 10);
        Due.rules(x, "if cold<-20 ration 10");
        D.due("not below", x.hour(30, 3), 0);
        Due.rules(x, "if cold<-19 ration 10");
        D.due("below", x.hour(30, 3), 10);
        Due.rules(x, "if hour>5 and hour<7 ration 10");
        D.due("the hour of the day", x.hour(30, 3), 10);
        D.due("the hour of the day", x.hour(6, 3), 10);
        D.due("the hour of the day", x.hour(31, 3), 0);
        Due.rules(x, "if wind>1 ration 10;if cold<1 ration 40;if hour<9 ration 30;if hour>9 ration 90");
        D.due("the greatest of those that hold", x.hour(30, 3), 40);
        Due.rules(x, "if wind>99 and wind>99 or wind>1 ration 10");
        D.due("and binds closer, ahead", x.hour(30, 3), 10);
        Due.rules(x, "if wind>1 or wind>99 and wind>99 ration 10");
        D.due("and binds closer, behind", x.hour(30, 3), 10);
        Due.rules(x, "if wind>1 or wind>2 and wind>99 ration 10;if wind>99ration 20");
        D.due("and binds closer", x.hour(30, 3), 10);
        Due.rules(x, "if wind>99 or wind>1 and wind>99 ration 10");
        D.due("neither holds", x.hour(30, 3), 0);
        x.demand(6, 10000);
        Due.rules(x, "if hour>5 and hour<7 ration 100");
        D.due("nothing is left", x.hour(30, 4), 0);
        Due.rules(x, "if hour>5 and hour<7 ration 1");
        D.due("demand as it is left", x.hour(30, 4), 9900);
        x.demand(6, 99);
        D.due("less 0.99 that is cut", x.hour(30, 4), 99);
        x.demand(6, 199);
        D.due("less 1.99 that is cut", x.hour(30, 4), 198);
    }

    // The rules' language is regular: row by state, column by token, the next state or -1.
    // Tokens: 0 rest, 1 cold, 2 if, 3 ration, 4 or, 5 and, 6 wind, 7 hour, 8 <, 9 >, 10 -, 11 ;,
    // 12 a number to 100, 13 a number to 1000, 14 all others.
    private static final int[][] NEXT = {
        {1, 1, 2, -1, -1, -1, -1, -1, -1, -1, -1, -1, -1, -1, -1},   // 0 a rule begins
        {-1, -1, -1, -1, -1, -1, -1, -1, -1, -1, -1, -1, 7, 7, -1},  // 1 behind rest, cold
        {-1, 3, -1, -1, -1, -1, 3, 3, -1, -1, -1, -1, -1, -1, -1},   // 2 a test begins
        {-1, -1, -1, -1, -1, -1, -1, -1, 4, 4, -1, -1, -1, -1, -1},  // 3 behind what is tested
        {-1, -1, -1, -1, -1, -1, -1, -1, -1, -1, 8, -1, 5, 5, -1},   // 4 behind < or >
        {-1, -1, -1, 6, 2, 2, -1, -1, -1, -1, -1, -1, -1, -1, -1},   // 5 behind a test
        {-1, -1, -1, -1, -1, -1, -1, -1, -1, -1, -1, -1, 7, -1, -1}, // 6 behind ration
        {-1, -1, -1, -1, -1, -1, -1, -1, -1, -1, -1, 0, -1, -1, -1}, // 7 behind a rule
        {-1, -1, -1, -1, -1, -1, -1, -1, -1, -1, -1, -1, 5, 5, -1},  // 8 behind -
    };
    private static final String[] TOKENS = {"rest", "cold", "if", "ration", "or", "and", "wind", "hour",
        "<", ">", "-", ";", "7", "500", "1001", "ifs", "+", "A", "\u00e9"};

    /** Holds faults against the table, by texts that mostly go on as rules do. */
    private static void againstTable(Random random) {
        List<String> tokens = new ArrayList<>();
        int state = 0;
        int many = random.nextInt(30);
        for (int i = 0; i < many; i++) {
            int token = random.nextInt(TOKENS.length);
            for (int tries = 0; tries < 400 && state >= 0 && next(state, token) < 0; tries++) {
                token = random.nextInt(60) == 0 ? token : random.nextInt(TOKENS.length);
            }
            state = state < 0 ? state : next(state, token);
            tokens.add(TOKENS[token]);
        }
        StringBuilder text = new StringBuilder();
        List<Integer> places = new ArrayList<>();
        for (int i = 0; i < tokens.size(); i++) {
            boolean needsBlank = i > 0 && Character.isLetterOrDigit(tokens.get(i).charAt(0))
                    && Character.isLetterOrDigit(tokens.get(i - 1).charAt(0));
            text.append(needsBlank || random.nextInt(4) == 0 ? " " : "");
            text.append(random.nextInt(9) == 0 ? "  " : "");
            places.add(text.length());
            text.append(tokens.get(i));
        }
        text.append(random.nextInt(4) == 0 ? " " : "");
        if (text.length() > 400) {
            return;
        }
        int fault = -1;
        int rules = 0;
        state = 0;
        for (int i = 0; i < tokens.size() && fault < 0; i++) {
            rules += state == 0 ? 1 : 0;
            state = next(state, List.of(TOKENS).indexOf(tokens.get(i)));
            fault = state < 0 || rules > 20 ? places.get(i) : -1;
        }
        if (fault < 0 && state != 7 && !tokens.isEmpty()) {
            fault = text.length();
        }
        WinterStation x = new WinterStation();
        D.due("random rules of " + text, Due.rules(x, text.toString()), fault < 0 ? rules : -6);
        D.due("random fault of " + text, x.fault(), fault);
    }

    private static int next(int state, int token) {
        return NEXT[state][Math.min(token, 14)];
    }

    /** Holds rations against conditions worked out while their text is written. */
    private static void againstWeather(Random random) {
        WinterStation x = new WinterStation();
        int hour = random.nextInt(100);
        int[] seen = {random.nextInt(61), random.nextInt(111) - 90, hour % 24};
        x.weather(hour, hour, seen[0], random.nextBoolean(), seen[1]);
        String[] words = {"wind", "cold", "hour"};
        StringBuilder text = new StringBuilder();
        int ration = 0;
        int rules = 1 + random.nextInt(3);
        for (int r = 0; r < rules; r++) {
            boolean any = false;
            text.append(r > 0 ? ";if " : "if ");
            int ands = 1 + random.nextInt(3);
            for (int a = 0; a < ands; a++) {
                boolean all = true;
                int tests = 1 + random.nextInt(3);
                for (int t = 0; t < tests; t++) {
                    int what = random.nextInt(3);
                    int number = seen[what] + random.nextInt(7) - 3;
                    boolean above = random.nextBoolean();
                    all &= above ? seen[what] > number : seen[what] < number;
                    text.append(t > 0 ? " and " : a > 0 ? " or " : "");
                    text.append(words[what]).append(above ? '>' : '<').append(number);
                }
                any |= all;
            }
            int own = random.nextInt(101);
            text.append(" ration ").append(own);
            ration = any ? Math.max(ration, own) : ration;
        }
        if (text.length() > 400) {
            return;
        }
        D.due("random rules of " + text, Due.rules(x, text.toString()), rules);
        D.due("random ration of " + text, x.hour(hour, 3), ration);
        x.demand(hour % 24, 777);
        D.due("random demand of " + text, x.hour(hour, 4), 777 - 777 * ration / 100);
    }
}
