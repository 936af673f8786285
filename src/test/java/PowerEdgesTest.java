/** The boundary cases of promises 4 to 9 (Terms II): engine, mill, demand, on, plan, planned. */
public final class PowerEdgesTest {
    private static final Due D = new Due("PowerEdgesTest");
    private static final int MIN = Integer.MIN_VALUE;
    private static final int MAX = Integer.MAX_VALUE;

    public static void main(String[] args) {
        outputRange();
        startRange();
        burnRange();
        fourEngines();
        millWinds();
        millGives();
        everyWind();
        demandHours();
        demandAmounts();
        everyHourOfTheDay();
        onAtFirst();
        onBeyondTheEngines();
        onBelowZero();
        onOfLaterEngines();
        planLengths();
        planAheadOfTheEnd();
        planWithoutEngines();
        refusedPlanIsNotKept();
        latestPlanIsKept();
        lackIsNotBelowZero();
        greatestSums();
        startsByOn();
        leastLackFirst();
        lowerFirst();
        plannedWithoutPlan();
        plannedHours();
        plannedWhats();
        shorterPlan();
        D.end();
    }

    private static void outputRange() {
        D.sentence("II: OUTPUT (1 .. 1000)");
        WinterStation x = new WinterStation();
        for (int output : new int[] {0, -1, 1001, MIN, MAX}) {
            D.refused(x, "engine(" + output + ", 0, 0)", x.engine(output, 0, 0), -1);
            D.due("engines", x.count(1), 0);
        }
        D.taken(x, "engine(1, 0, 0)", x.engine(1, 0, 0), 0);
        D.taken(x, "engine(1000, 0, 0)", x.engine(1000, 0, 0), 1);
        x.demand(0, 1002);
        x.plan(1);
        D.due("lack", x.planned(0, 1), 1);
    }

    private static void startRange() {
        D.sentence("II: START (0 .. 1000)");
        WinterStation x = new WinterStation();
        for (int start : new int[] {-1, 1001, MIN, MAX}) {
            D.refused(x, "engine(5, " + start + ", 0)", x.engine(5, start, 0), -1);
            D.due("engines", x.count(1), 0);
        }
        D.taken(x, "engine(5, 0, 1)", x.engine(5, 0, 1), 0);
        x.demand(0, 10);
        D.taken(x, "plan(1)", x.plan(1), 1);
        D.taken(x, "engine(5, 1000, 1)", x.engine(5, 1000, 1), 1);
        D.taken(x, "plan(1)", x.plan(1), 1002);
    }

    private static void burnRange() {
        D.sentence("II: BURN (0 .. 1000)");
        WinterStation x = new WinterStation();
        for (int burn : new int[] {-1, 1001, MIN, MAX}) {
            D.refused(x, "engine(5, 0, " + burn + ")", x.engine(5, 0, burn), -1);
            D.due("engines", x.count(1), 0);
        }
        D.taken(x, "engine(5, 1, 0)", x.engine(5, 1, 0), 0);
        x.demand(0, 10);
        D.taken(x, "plan(1)", x.plan(1), 1);
        D.taken(x, "engine(5, 1, 1000)", x.engine(5, 1, 1000), 1);
        D.taken(x, "plan(1)", x.plan(1), 1002);
    }

    private static void fourEngines() {
        D.sentence("II: ENGINES 0 .. 3 (4 at most)");
        WinterStation x = new WinterStation();
        x.demand(0, 10000);
        for (int i = 0; i < 4; i++) {
            D.taken(x, "engine " + i, x.engine(1 << i, 0, 0), i);
            x.plan(1);
            D.due("all run", x.planned(0, 0), (2 << i) - 1);
            D.due("lack", x.planned(0, 1), 10001 - (2 << i));
        }
        for (int i = 0; i < 3; i++) {
            D.refused(x, "a fifth", x.engine(1000, 0, 0), -5);
            D.due("engines", x.count(1), 4);
        }
        D.refused(x, "a fifth that can't be", x.engine(1001, 0, 0), -1);
        x.plan(1);
        D.due("lack", x.planned(0, 1), 9985);
    }

    private static void millWinds() {
        D.sentence("5: MILL by WIND 0 .. 60");
        WinterStation x = new WinterStation();
        x.weather(1, 1, 60, false, 0);
        D.taken(x, "mill(0, 5)", x.mill(0, 5), 0);
        D.taken(x, "mill(60, 6)", x.mill(60, 6), 0);
        for (int wind : new int[] {-1, 61, MIN, MAX}) {
            D.refused(x, "mill(" + wind + ", 7)", x.mill(wind, 7), -1);
        }
        D.due("gives of 0", x.hour(0, 5), 5);
        D.due("gives of 60", x.hour(1, 5), 6);
    }

    private static void millGives() {
        D.sentence("II: MILL 61 numbers, 0 .. 1000");
        WinterStation x = new WinterStation();
        D.taken(x, "mill(0, 1000)", x.mill(0, 1000), 0);
        for (int gives : new int[] {-1, 1001, MIN, MAX}) {
            D.refused(x, "mill(0, " + gives + ")", x.mill(0, gives), -1);
            D.due("gives", x.hour(0, 5), 1000);
        }
        D.taken(x, "mill(0, 0)", x.mill(0, 0), 0);
        D.due("gives", x.hour(0, 5), 0);
    }

    private static void everyWind() {
        D.sentence("II: MILL: what WIND w gives, 0 at first");
        WinterStation x = new WinterStation();
        for (int w = 0; w <= 60; w++) {
            x.weather(w, w, w, false, 0);
            D.due("gives at first of wind " + w, x.hour(w, 5), 0);
            D.due("mill(" + w + ")", x.mill(w, 1000 - w), 0);
        }
        for (int w = 0; w <= 60; w++) {
            D.due("gives of wind " + w, x.hour(w, 5), 1000 - w);
        }
    }

    private static void demandHours() {
        D.sentence("6: DEMAND of an hour of the day, 0 .. 23");
        WinterStation x = new WinterStation();
        D.taken(x, "demand(0, 5)", x.demand(0, 5), 0);
        D.taken(x, "demand(23, 6)", x.demand(23, 6), 0);
        for (int hour : new int[] {-1, 24, 25, 2399, MIN, MAX}) {
            D.refused(x, "demand(" + hour + ", 7)", x.demand(hour, 7), -1);
        }
        D.due("demand of 0", x.hour(0, 4), 5);
        D.due("demand of 1", x.hour(1, 4), 0);
        D.due("demand of 23", x.hour(23, 4), 6);
        D.due("demand of 24", x.hour(24, 4), 5);
    }

    private static void demandAmounts() {
        D.sentence("II: DEMAND 24 numbers, 0 .. 10,000");
        WinterStation x = new WinterStation();
        D.taken(x, "demand(0, 10000)", x.demand(0, 10000), 0);
        for (int amount : new int[] {-1, 10001, MIN, MAX}) {
            D.refused(x, "demand(0, " + amount + ")", x.demand(0, amount), -1);
            D.due("demand", x.hour(0, 4), 10000);
        }
        D.taken(x, "demand(0, 0)", x.demand(0, 0), 0);
        D.due("demand", x.hour(0, 4), 0);
    }

    private static void everyHourOfTheDay() {
        D.sentence("II: DEMAND of an hour of the day, 0 at first");
        WinterStation x = new WinterStation();
        for (int h = 0; h < 24; h++) {
            D.due("demand at first", x.hour(2376 + h, 4), 0);
            D.due("demand(" + h + ")", x.demand(h, 10000 - h), 0);
        }
        for (int h = 0; h < 24; h++) {
            D.due("demand of " + h, x.hour(h, 4), 10000 - h);
            D.due("demand of the last day", x.hour(2376 + h, 4), 10000 - h);
        }
    }

    private static void onAtFirst() {
        D.sentence("7: ON: what it was");
        WinterStation x = new WinterStation();
        D.taken(x, "on(0) at first", x.on(0), 0);
        x.engine(1, 1, 1);
        D.taken(x, "on(1)", x.on(1), 0);
        D.taken(x, "on(1)", x.on(1), 1);
        D.taken(x, "on(0)", x.on(0), 1);
        D.taken(x, "on(0)", x.on(0), 0);
    }

    private static void onBeyondTheEngines() {
        D.sentence("7: -1 bits beyond the ENGINES");
        WinterStation x = new WinterStation();
        for (int engines = 0; engines <= 4; engines++) {
            int all = (1 << engines) - 1;
            D.taken(x, "on(" + all + ")", x.on(all), all / 2);
            D.refused(x, "on(" + (all + 1) + ")", x.on(all + 1), -1);
            D.refused(x, "on(" + (1 << 30 | all) + ")", x.on(1 << 30 | all), -1);
            D.refused(x, "on(16)", x.on(16), -1);
            D.taken(x, "a refused one is not kept", x.on(all), all);
            x.engine(1, 1, 1);
        }
        D.refused(x, "on(31)", x.on(31), -1);
        D.taken(x, "on(15)", x.on(15), 15);
    }

    private static void onBelowZero() {
        D.sentence("7: -1 bits beyond the ENGINES, the highest of them");
        WinterStation x = new WinterStation();
        for (int i = 0; i < 4; i++) {
            x.engine(1, 1, 1);
        }
        x.on(9);
        for (int bits : new int[] {-1, -16, MIN, MIN + 1, MAX}) {
            D.refused(x, "on(" + bits + ")", x.on(bits), -1);
        }
        D.taken(x, "on(0)", x.on(0), 9);
    }

    private static void onOfLaterEngines() {
        D.sentence("II: ON tells which run ahead of it, engines of later too");
        WinterStation x = new WinterStation();
        x.engine(10, 100, 1);
        x.on(1);
        x.engine(10, 100, 2);
        x.demand(0, 20);
        D.taken(x, "the new one is not on", x.plan(1), 103);
        D.taken(x, "on(3)", x.on(3), 1);
        D.taken(x, "both are on", x.plan(1), 3);
    }

    private static void planLengths() {
        D.sentence("8: n HOURS (1 .. 100)");
        WinterStation x = new WinterStation();
        for (int n : new int[] {0, -1, 101, 2400, MIN, MAX}) {
            D.refused(x, "plan(" + n + ")", x.plan(n), -1);
            D.due("none is kept", x.planned(-1, 0), -1);
        }
        for (int n : new int[] {1, 2, 99, 100}) {
            D.taken(x, "plan(" + n + ")", x.plan(n), 0);
            D.due("hours", x.planned(-1, 0), n);
            D.due("the last", x.planned(n - 1, 0), 0);
            D.due("none behind it", x.planned(n, 0), -1);
        }
    }

    private static void planAheadOfTheEnd() {
        D.sentence("8: all ahead of 2400");
        WinterStation x = new WinterStation();
        x.demand(23, 7);
        Due.goTo(x, 2300);
        D.taken(x, "plan(100) at 2300", x.plan(100), 0);
        D.due("the last is 2399", x.planned(99, 1), 7);
        x.go(1);
        D.refused(x, "plan(100) at 2301", x.plan(100), -1);
        D.due("the old one stays", x.planned(-1, 0), 100);
        D.taken(x, "plan(99) at 2301", x.plan(99), 0);
        D.due("hours", x.planned(-1, 0), 99);
        D.due("the last is 2399", x.planned(98, 1), 7);
        Due.goTo(x, 2399);
        D.refused(x, "plan(2) at 2399", x.plan(2), -1);
        D.refused(x, "plan(100) at 2399", x.plan(100), -1);
        D.refused(x, "plan(MAX) at 2399", x.plan(MAX), -1);
        D.taken(x, "plan(1) at 2399", x.plan(1), 0);
        D.due("the last is 2399", x.planned(0, 1), 7);
    }

    private static void planWithoutEngines() {
        D.sentence("8: (Without ENGINES, too.)");
        WinterStation x = new WinterStation();
        x.demand(1, 30);
        x.mill(0, 10);
        D.taken(x, "plan(3)", x.plan(3), 0);
        D.due("hours", x.planned(-1, 0), 3);
        D.due("lacks", x.planned(-1, 1), 20);
        for (int i = 0; i < 3; i++) {
            D.due("bits of " + i, x.planned(i, 0), 0);
            D.due("lack of " + i, x.planned(i, 1), i == 1 ? 20 : 0);
        }
    }

    private static void refusedPlanIsNotKept() {
        D.sentence("8: -1, and the latest is kept");
        WinterStation x = new WinterStation();
        x.engine(4, 1, 1);
        x.demand(0, 5);
        x.plan(2);
        for (int n : new int[] {0, 101, MIN, MAX}) {
            D.refused(x, "plan(" + n + ")", x.plan(n), -1);
            D.due("hours", x.planned(-1, 0), 2);
            D.due("lacks", x.planned(-1, 1), 1);
            D.due("bits of 0", x.planned(0, 0), 1);
            D.due("bits of 1", x.planned(1, 0), 0);
            D.due("no third", x.planned(2, 0), -1);
        }
    }

    private static void latestPlanIsKept() {
        D.sentence("8: kept as the latest");
        WinterStation x = new WinterStation();
        x.engine(4, 1, 1);
        x.demand(0, 5);
        x.plan(1);
        x.demand(0, 9);
        x.mill(0, 1);
        x.weather(0, 0, 60, true, 0);
        x.engine(4, 1, 1);
        x.on(3);
        Due.rules(x, "if hour<24 ration 100");
        x.go(200);
        D.due("bits", x.planned(0, 0), 1);
        D.due("lack", x.planned(0, 1), 1);
        D.due("lacks", x.planned(-1, 1), 1);
        D.due("hours", x.planned(-1, 0), 1);
    }

    private static void lackIsNotBelowZero() {
        D.sentence("II: LACK at least 0");
        WinterStation x = new WinterStation();
        x.mill(0, 1000);
        x.weather(1, 1, 9, false, 0);
        x.demand(1, 300);
        x.demand(2, 1000);
        x.demand(3, 1001);
        D.taken(x, "plan(4)", x.plan(4), 0);
        int[] lacks = {0, 300, 0, 1};
        for (int i = 0; i < 4; i++) {
            D.due("lack of " + i, x.planned(i, 1), lacks[i]);
        }
        D.due("what is too much makes up for nothing", x.planned(-1, 1), 301);
        x.engine(1000, 0, 3);
        D.taken(x, "plan(4) with too much output", x.plan(4), 6);
        D.due("lack of 1", x.planned(1, 1), 0);
        D.due("lacks", x.planned(-1, 1), 0);
    }

    private static void greatestSums() {
        D.sentence("II: the greatest LACKS and FUEL");
        WinterStation x = new WinterStation();
        for (int h = 0; h < 24; h++) {
            x.demand(h, 10000);
        }
        D.taken(x, "plan(100) without engines", x.plan(100), 0);
        D.due("lacks", x.planned(-1, 1), 1000000);
        D.due("lack of the last", x.planned(99, 1), 10000);
        for (int i = 0; i < 4; i++) {
            x.engine(1000, 1000, 1000);
        }
        D.taken(x, "plan(100), four start once", x.plan(100), 404000);
        D.due("lacks", x.planned(-1, 1), 600000);
        x.on(15);
        D.taken(x, "plan(100), all are on", x.plan(100), 400000);
    }

    private static void startsByOn() {
        D.sentence("II: START, if it did not run in the HOUR ahead");
        WinterStation x = new WinterStation();
        x.engine(10, 50, 1);
        x.engine(10, 7, 9);
        x.demand(0, 20);
        x.demand(2, 20);
        D.taken(x, "plan(1), none is on", x.plan(1), 67);
        D.taken(x, "plan(3): 0 runs on, 1 starts again", x.plan(3), 85);
        D.due("bits of 1", x.planned(1, 0), 1);
        x.on(1);
        D.taken(x, "plan(1), 0 is on", x.plan(1), 17);
        x.on(2);
        D.taken(x, "plan(1), 1 is on", x.plan(1), 60);
        x.on(3);
        D.taken(x, "plan(1), both are on", x.plan(1), 10);
        x.go(1);
        D.taken(x, "plan(1), both are on for nothing", x.plan(1), 0);
        D.due("they stop", x.planned(0, 0), 0);
    }

    private static void leastLackFirst() {
        D.sentence("II: with the least sum of LACKS; of these with the least FUEL");
        WinterStation x = new WinterStation();
        x.engine(1, 1000, 1000);
        x.engine(1000, 0, 0);
        x.demand(0, 1001);
        D.taken(x, "2000 for the last 1", x.plan(1), 2000);
        D.due("lack", x.planned(0, 1), 0);
        x.demand(0, 1000);
        D.taken(x, "the least fuel of those without a lack", x.plan(1), 0);
        D.due("bits", x.planned(0, 0), 2);
        x.demand(0, 1002);
        D.taken(x, "all run for the least lack", x.plan(1), 2000);
        D.due("lack", x.planned(0, 1), 1);
    }

    private static void lowerFirst() {
        D.sentence("II: of these the first, by the bits of those that run, HOUR by HOUR, the lower first");
        WinterStation x = new WinterStation();
        x.engine(10, 3, 0);
        x.demand(1, 10);
        D.taken(x, "plan(3)", x.plan(3), 3);
        D.due("it does not run ahead", x.planned(0, 0), 0);
        D.due("it runs", x.planned(1, 0), 1);
        D.due("it does not run on", x.planned(2, 0), 0);
        x.demand(3, 10);
        D.taken(x, "plan(4)", x.plan(4), 3);
        D.due("it runs on for less", x.planned(2, 0), 1);
        x.engine(10, 0, 3);
        D.taken(x, "plan(2), 0 and 1 are alike", x.plan(2), 3);
        D.due("the lower", x.planned(1, 0), 1);
        WinterStation y = new WinterStation();
        for (int i = 0; i < 4; i++) {
            y.engine(10, 1, 1);
        }
        y.demand(0, 20);
        y.demand(1, 10);
        y.on(12);
        D.taken(y, "plan(2)", y.plan(2), 3);
        D.due("those that are on", y.planned(0, 0), 12);
        D.due("the lower of them", y.planned(1, 0), 4);
    }

    private static void plannedWithoutPlan() {
        D.sentence("9: NONE without");
        WinterStation x = new WinterStation();
        x.plan(0);
        for (int i : new int[] {-2, -1, 0, 1, 99, 100, MIN, MAX}) {
            for (int what = -1; what <= 2; what++) {
                D.due("planned(" + i + ", " + what + ")", x.planned(i, what), -1);
            }
        }
        D.due("status() is not touched", x.status(), -1);
    }

    private static void plannedHours() {
        D.sentence("9: the i-th HOUR, of those that there are");
        WinterStation x = new WinterStation();
        x.engine(1, 0, 0);
        for (int h = 0; h < 24; h++) {
            x.demand(h, 2);
        }
        x.plan(100);
        for (int i : new int[] {-2, 100, 101, MIN, MAX}) {
            D.due("bits of " + i, x.planned(i, 0), -1);
            D.due("lack of " + i, x.planned(i, 1), -1);
        }
        for (int i = 0; i < 100; i++) {
            D.due("bits of " + i, x.planned(i, 0), 1);
            D.due("lack of " + i, x.planned(i, 1), 1);
        }
        D.due("hours", x.planned(-1, 0), 100);
        D.due("lacks", x.planned(-1, 1), 100);
        D.due("status() is not touched", x.status(), 0);
    }

    private static void plannedWhats() {
        D.sentence("9: what 0, 1, and no other");
        WinterStation x = new WinterStation();
        x.plan(3);
        for (int what : new int[] {-1, 2, 3, MIN, MAX}) {
            for (int i = -1; i <= 2; i++) {
                D.due("planned(" + i + ", " + what + ")", x.planned(i, what), -1);
            }
        }
    }

    private static void shorterPlan() {
        D.sentence("9: of the latest PLAN, which is shorter than another");
        WinterStation x = new WinterStation();
        x.engine(1, 0, 0);
        for (int h = 0; h < 24; h++) {
            x.demand(h, 2);
        }
        x.plan(100);
        x.plan(1);
        D.due("hours", x.planned(-1, 0), 1);
        D.due("lacks", x.planned(-1, 1), 1);
        D.due("bits of 0", x.planned(0, 0), 1);
        for (int i : new int[] {1, 2, 99}) {
            D.due("bits of " + i, x.planned(i, 0), -1);
            D.due("lack of " + i, x.planned(i, 1), -1);
        }
    }
}
