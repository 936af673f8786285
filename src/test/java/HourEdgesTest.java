/** The boundary cases of promises 1 to 3 (Terms I): a new object, weather, hour. */
public final class HourEdgesTest {
    private static final Due D = new Due("HourEdgesTest");
    private static final int MIN = Integer.MIN_VALUE;
    private static final int MAX = Integer.MAX_VALUE;

    public static void main(String[] args) {
        hourZeroAtFirst();
        everyHourAtFirst();
        nothingIsThere();
        emptyCalls();
        firstHour();
        lastHour();
        notBackwards();
        threeHundred();
        noWrapOfHours();
        bothEnds();
        windRange();
        coldRange();
        anyHourWhateverNow();
        otherHours();
        otherWhats();
        everyWeatherComesBack();
        hourOfTheDay();
        demandLeft();
        millOfHour();
        D.end();
    }

    private static void hourZeroAtFirst() {
        D.sentence("1: Hour 0");
        D.due("count(0)", new WinterStation().count(0), 0);
        D.due("go(1)", new WinterStation().go(1), 1);
    }

    // An object answers 512 calls, so that the hours are asked of several.
    private static void everyHourAtFirst() {
        D.sentence("I: WEATHER 0, no LIGHT, 0 at first");
        for (int from = 0; from < 2400; from += 80) {
            WinterStation x = new WinterStation();
            for (int h = from; h < from + 80; h++) {
                for (int what = 0; what <= 5; what++) {
                    D.due("hour(" + h + ", " + what + ")", x.hour(h, what), 0);
                }
            }
        }
    }

    private static void nothingIsThere() {
        D.sentence("1: nothing is there");
        WinterStation x = new WinterStation();
        for (int what = 0; what <= 11; what++) {
            D.due("count(" + what + ")", x.count(what), 0);
        }
        D.due("count(12)", x.count(12), -90);
        for (int i = -1; i <= 1; i++) {
            D.due("planned(" + i + ", 0)", x.planned(i, 0), -1);
            D.due("planned(" + i + ", 1)", x.planned(i, 1), -1);
            D.due("begins(" + i + ", 0)", x.begins(i, 0), -1);
            D.due("begins(" + i + ", 1)", x.begins(i, 1), -1);
            D.due("sent(" + i + ", 0)", x.sent(i, 0), -1);
            D.due("arrived(" + i + ", 0)", x.arrived(i, 0), -1);
        }
        for (int s = 0; s < 6; s++) {
            D.due("stack(" + s + ", -1)", x.stack(s, -1), 0);
            D.due("stack(" + s + ", 0)", x.stack(s, 0), -1);
        }
        D.due("fault()", x.fault(), -1);
        D.due("land(0)", x.land(0), -1);
        D.due("status()", x.status(), 0);
    }

    private static void emptyCalls() {
        D.sentence("1: calls that find nothing");
        WinterStation x = new WinterStation();
        D.taken(x, "on(0)", x.on(0), 0);
        D.taken(x, "plan(100)", x.plan(100), 0);
        D.due("schedule()", x.schedule(), 0);
        D.taken(x, "rules()", x.rules(), 0);
        D.due("end(0)", x.end(0), 0);
        D.taken(x, "go(200)", x.go(200), 200);
        D.due("count(9)", x.count(9), 0);
        for (int kind = 0; kind <= 9; kind++) {
            D.refused(x, "take(" + kind + ")", x.take(kind), -3);
        }
        D.refused(x, "ill(0, 0, 0)", x.ill(0, 0, 0), -2);
    }

    private static void firstHour() {
        D.sentence("2: HOURS from 0 on");
        WinterStation x = new WinterStation();
        D.taken(x, "weather(0, 0)", x.weather(0, 0, 7, true, 7), 0);
        D.due("wind of 0", x.hour(0, 0), 7);
        D.refused(x, "weather(-1, 0)", x.weather(-1, 0, 8, true, 8), -1);
        D.refused(x, "weather(-1, -1)", x.weather(-1, -1, 8, true, 8), -1);
        D.refused(x, "weather(-2399, 0)", x.weather(-2399, 0, 8, true, 8), -1);
        D.due("wind of 0 stays", x.hour(0, 0), 7);
    }

    private static void lastHour() {
        D.sentence("2: HOURS to 2399");
        WinterStation x = new WinterStation();
        D.taken(x, "weather(2399, 2399)", x.weather(2399, 2399, 7, true, 7), 0);
        D.due("wind of 2399", x.hour(2399, 0), 7);
        D.due("wind of 2398", x.hour(2398, 0), 0);
        D.refused(x, "weather(2399, 2400)", x.weather(2399, 2400, 8, true, 8), -1);
        D.refused(x, "weather(2400, 2400)", x.weather(2400, 2400, 8, true, 8), -1);
        D.refused(x, "weather(2400, 2399)", x.weather(2400, 2399, 8, true, 8), -1);
        D.due("wind of 2399 stays", x.hour(2399, 0), 7);
    }

    private static void notBackwards() {
        D.sentence("2: from one to another one");
        WinterStation x = new WinterStation();
        D.taken(x, "weather(9, 9)", x.weather(9, 9, 7, false, 0), 0);
        D.refused(x, "weather(10, 9)", x.weather(10, 9, 8, false, 0), -1);
        D.refused(x, "weather(2399, 0)", x.weather(2399, 0, 8, false, 0), -1);
        D.due("wind of 9 stays", x.hour(9, 0), 7);
        D.due("wind of 10 stays", x.hour(10, 0), 0);
    }

    private static void threeHundred() {
        D.sentence("2: 300 at most");
        WinterStation x = new WinterStation();
        D.refused(x, "weather(0, 300)", x.weather(0, 300, 9, true, 0), -1);
        D.refused(x, "weather(2099, 2399)", x.weather(2099, 2399, 9, true, 0), -1);
        D.refused(x, "weather(0, 2399)", x.weather(0, 2399, 9, true, 0), -1);
        D.due("wind of 0 stays", x.hour(0, 0), 0);
        D.due("wind of 2399 stays", x.hour(2399, 0), 0);
        D.taken(x, "weather(0, 299)", x.weather(0, 299, 3, true, 0), 0);
        D.taken(x, "weather(2100, 2399)", x.weather(2100, 2399, 4, true, 0), 0);
        for (int h = 0; h <= 301; h++) {
            D.due("wind of " + h, x.hour(h, 0), h <= 299 ? 3 : 0);
        }
        D.due("wind of 2099", x.hour(2099, 0), 0);
        D.due("wind of 2100", x.hour(2100, 0), 4);
        D.due("wind of 2399", x.hour(2399, 0), 4);
    }

    private static void noWrapOfHours() {
        D.sentence("2: numbers that wrap around");
        WinterStation x = new WinterStation();
        D.refused(x, "weather(MIN, MAX)", x.weather(MIN, MAX, 1, true, 1), -1);
        D.refused(x, "weather(MAX, MIN)", x.weather(MAX, MIN, 1, true, 1), -1);
        D.refused(x, "weather(MIN, 0)", x.weather(MIN, 0, 1, true, 1), -1);
        D.refused(x, "weather(0, MAX)", x.weather(0, MAX, 1, true, 1), -1);
        D.refused(x, "weather(MIN, MIN)", x.weather(MIN, MIN, 1, true, 1), -1);
        D.refused(x, "weather(MAX, MAX)", x.weather(MAX, MAX, 1, true, 1), -1);
        D.refused(x, "wind 64", x.weather(0, 0, 64, true, 1), -1);
        D.refused(x, "wind 256", x.weather(0, 0, 256, true, 1), -1);
        D.refused(x, "cold 166", x.weather(0, 0, 1, true, 166), -1);
        D.refused(x, "cold -256", x.weather(0, 0, 1, true, -256), -1);
        D.due("wind of 0 stays", x.hour(0, 0), 0);
        D.due("light of 0 stays", x.hour(0, 1), 0);
    }

    private static void bothEnds() {
        D.sentence("2: WEATHER of HOURS from one to another one");
        WinterStation x = new WinterStation();
        x.weather(99, 104, 1, false, -1);
        D.taken(x, "weather(100, 103)", x.weather(100, 103, 2, true, -2), 0);
        for (int h = 98; h <= 105; h++) {
            boolean inner = h >= 100 && h <= 103;
            boolean outer = h >= 99 && h <= 104;
            D.due("wind of " + h, x.hour(h, 0), inner ? 2 : outer ? 1 : 0);
            D.due("light of " + h, x.hour(h, 1), inner ? 1 : 0);
            D.due("cold of " + h, x.hour(h, 2), inner ? -2 : outer ? -1 : 0);
        }
    }

    private static void windRange() {
        D.sentence("I: WIND 0 .. 60");
        WinterStation x = new WinterStation();
        D.taken(x, "wind 60", x.weather(4, 4, 60, false, 0), 0);
        for (int wind : new int[] {-1, 61, MIN, MAX}) {
            D.refused(x, "wind " + wind, x.weather(4, 4, wind, true, 5), -1);
            D.due("wind stays", x.hour(4, 0), 60);
            D.due("light stays", x.hour(4, 1), 0);
            D.due("cold stays", x.hour(4, 2), 0);
        }
        D.taken(x, "wind 0", x.weather(4, 4, 0, false, 0), 0);
        D.due("wind", x.hour(4, 0), 0);
    }

    private static void coldRange() {
        D.sentence("I: COLD -90 .. 20");
        WinterStation x = new WinterStation();
        D.taken(x, "cold -90", x.weather(4, 4, 3, true, -90), 0);
        for (int cold : new int[] {-91, 21, MIN, MAX}) {
            D.refused(x, "cold " + cold, x.weather(4, 4, 5, false, cold), -1);
            D.due("wind stays", x.hour(4, 0), 3);
            D.due("light stays", x.hour(4, 1), 1);
            D.due("cold stays", x.hour(4, 2), -90);
        }
        D.taken(x, "cold 20", x.weather(4, 4, 3, true, 20), 0);
        D.due("cold", x.hour(4, 2), 20);
    }

    private static void anyHourWhateverNow() {
        D.sentence("2: HOURS 0 .. 2399, whatever is NOW");
        WinterStation x = new WinterStation();
        Due.goTo(x, 2399);
        D.taken(x, "weather(0, 0)", x.weather(0, 0, 5, true, 5), 0);
        D.taken(x, "weather(2399, 2399)", x.weather(2399, 2399, 6, true, 6), 0);
        D.refused(x, "weather(2400, 2400)", x.weather(2400, 2400, 6, true, 6), -1);
        D.due("wind of 0", x.hour(0, 0), 5);
        D.due("wind of 2399", x.hour(2399, 0), 6);
    }

    private static void otherHours() {
        D.sentence("3: -1000 for others, HOURS that are none");
        WinterStation x = new WinterStation();
        x.weather(0, 0, 1, true, 1);
        x.weather(2399, 2399, 1, true, 1);
        for (int h : new int[] {-1, 2400, -2400, 4800, MIN, MAX}) {
            for (int what = -1; what <= 6; what++) {
                D.due("hour(" + h + ", " + what + ")", x.hour(h, what), -1000);
            }
        }
        D.due("status() is not touched", x.status(), 0);
    }

    private static void otherWhats() {
        D.sentence("3: -1000 for others, whats that are none");
        WinterStation x = new WinterStation();
        for (int what : new int[] {-1, 6, 7, MIN, MAX}) {
            D.due("hour(0, " + what + ")", x.hour(0, what), -1000);
            D.due("hour(2399, " + what + ")", x.hour(2399, what), -1000);
        }
        D.due("hour(2399, 5)", x.hour(2399, 5), 0);
        D.due("hour(0, 0)", x.hour(0, 0), 0);
        x.box(6, 0);
        x.hour(0, 6);
        D.due("status() is not touched", x.status(), -2);
    }

    private static void everyWeatherComesBack() {
        D.sentence("3: 0 WIND, 1 LIGHT (1, 0), 2 COLD");
        WinterStation x = new WinterStation();
        for (int cold = -90; cold <= 20; cold++) {
            int wind = (cold + 90) % 61;
            boolean light = cold % 3 == 0;
            x.weather(7, 7, wind, light, cold);
            D.due("wind by cold " + cold, x.hour(7, 0), wind);
            D.due("light by cold " + cold, x.hour(7, 1), light ? 1 : 0);
            D.due("cold " + cold, x.hour(7, 2), cold);
        }
    }

    private static void hourOfTheDay() {
        D.sentence("I: hour of the day: the rest by 24");
        WinterStation x = new WinterStation();
        x.demand(0, 100);
        x.demand(23, 2300);
        D.taken(x, "rules", Due.rules(x, "if hour>22 ration 10;if hour<1 ration 20"), 2);
        int[][] due = {{0, 20, 80}, {22, 0, 0}, {23, 10, 2070}, {24, 20, 80}, {46, 0, 0}, {47, 10, 2070},
            {48, 20, 80}, {2375, 10, 2070}, {2376, 20, 80}, {2398, 0, 0}, {2399, 10, 2070}};
        for (int[] one : due) {
            D.due("ration of " + one[0], x.hour(one[0], 3), one[1]);
            D.due("demand of " + one[0], x.hour(one[0], 4), one[2]);
        }
    }

    private static void demandLeft() {
        D.sentence("II: DEMAND, less DEMAND times RATION / 100, that cut");
        int[][] due = {{0, 0, 0}, {0, 100, 0}, {1, 0, 1}, {1, 1, 1}, {1, 99, 1}, {1, 100, 0}, {2, 50, 1},
            {3, 50, 2}, {99, 1, 99}, {100, 1, 99}, {101, 1, 100}, {10000, 0, 10000}, {10000, 1, 9900},
            {10000, 99, 100}, {10000, 100, 0}, {9999, 99, 100}, {9999, 1, 9900}};
        for (int[] one : due) {
            WinterStation x = new WinterStation();
            x.demand(0, one[0]);
            Due.rules(x, "if hour<24 ration " + one[1]);
            D.due("ration " + one[1], x.hour(0, 3), one[1]);
            D.due("demand " + one[0] + " by ration " + one[1], x.hour(0, 4), one[2]);
        }
    }

    private static void millOfHour() {
        D.sentence("3: 5 what MILL gives, by the WIND of that HOUR");
        WinterStation x = new WinterStation();
        x.mill(0, 1000);
        x.mill(60, 1);
        x.weather(2399, 2399, 60, false, 0);
        D.due("gives at 2398", x.hour(2398, 5), 1000);
        D.due("gives at 2399", x.hour(2399, 5), 1);
        x.weather(2399, 2399, 59, false, 0);
        D.due("gives at 2399 by another wind", x.hour(2399, 5), 0);
    }
}
