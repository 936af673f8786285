/** Promises 1, 2, 3 and 28: a new object, weather, hour, land. */
public final class WeatherTest {
    private static final Due D = new Due("WeatherTest");

    public static void main(String[] args) {
        newObject();
        weatherOfHours();
        weatherRefused();
        hourAnswers();
        landings();
        landingEdges();
        D.end();
    }

    private static void newObject() {
        WinterStation x = new WinterStation();
        D.due("NONE", WinterStation.NONE, -1);
        for (int what = 0; what <= 11; what++) {
            D.due("new: count(" + what + ")", x.count(what), 0);
        }
        D.due("new: count(12)", x.count(12), -90);
        D.due("new: status()", x.status(), 0);
        D.due("new: fault()", x.fault(), -1);
        for (int h : new int[] {0, 1, 1200, 2399}) {
            for (int what = 0; what <= 5; what++) {
                D.due("new: hour(" + h + ", " + what + ")", x.hour(h, what), 0);
            }
        }
        for (int s = 0; s < 6; s++) {
            D.due("new: stack(" + s + ", -1)", x.stack(s, -1), 0);
        }
        for (int what = 0; what <= 1; what++) {
            D.due("new: planned(-1, " + what + ")", x.planned(-1, what), -1);
            D.due("new: planned(0, " + what + ")", x.planned(0, what), -1);
            D.due("new: begins(0, " + what + ")", x.begins(0, what), -1);
        }
        D.due("new: sent(0, 0)", x.sent(0, 0), -1);
        D.due("new: arrived(0, 0)", x.arrived(0, 0), -1);
        D.due("new: land(0)", x.land(0), -1);
        D.due("new: take(0)", x.take(0), -3);
        D.due("new: schedule()", x.schedule(), 0);
        D.due("new: rules()", x.rules(), 0);
    }

    private static void weatherOfHours() {
        WinterStation x = new WinterStation();
        D.due("weather(10, 12)", x.weather(10, 12, 60, true, -90), 0);
        int[] winds = {0, 60, 60, 60, 0};
        int[] lights = {0, 1, 1, 1, 0};
        int[] colds = {0, -90, -90, -90, 0};
        for (int i = 0; i < 5; i++) {
            D.due("wind of " + (9 + i), x.hour(9 + i, 0), winds[i]);
            D.due("light of " + (9 + i), x.hour(9 + i, 1), lights[i]);
            D.due("cold of " + (9 + i), x.hour(9 + i, 2), colds[i]);
        }
        D.due("weather(11, 11)", x.weather(11, 11, 0, false, 20), 0);
        D.due("wind of 11", x.hour(11, 0), 0);
        D.due("light of 11", x.hour(11, 1), 0);
        D.due("cold of 11", x.hour(11, 2), 20);
        D.due("wind of 10 stays", x.hour(10, 0), 60);
        D.due("cold of 12 stays", x.hour(12, 2), -90);
        D.due("300 hours", x.weather(2100, 2399, 7, true, -1), 0);
        D.due("wind of 2100", x.hour(2100, 0), 7);
        D.due("cold of 2399", x.hour(2399, 2), -1);
        D.due("wind of 2099", x.hour(2099, 0), 0);
        x.go(200);
        D.due("weather of the past", x.weather(0, 0, 33, true, 5), 0);
        D.due("wind of 0", x.hour(0, 0), 33);
        for (int cold = -90; cold <= 20; cold++) {
            x.weather(50, 50, cold + 90 > 60 ? 60 : cold + 90, cold % 2 == 0, cold);
            D.due("cold " + cold, x.hour(50, 2), cold);
            D.due("wind by cold " + cold, x.hour(50, 0), Math.min(60, cold + 90));
            D.due("light by cold " + cold, x.hour(50, 1), cold % 2 == 0 ? 1 : 0);
        }
    }

    private static void weatherRefused() {
        WinterStation x = new WinterStation();
        x.weather(5, 5, 9, true, -9);
        int[][] wrong = {
            {-1, 5, 1, 1}, {5, 2400, 1, 1}, {6, 5, 1, 1}, {0, 300, 1, 1}, {2400, 2400, 1, 1},
            {5, 5, -1, 1}, {5, 5, 61, 1}, {5, 5, 1, -91}, {5, 5, 1, 21},
            {Integer.MIN_VALUE, Integer.MAX_VALUE, 1, 1}, {Integer.MAX_VALUE, Integer.MIN_VALUE, 1, 1},
            {5, 5, Integer.MAX_VALUE, 1}, {5, 5, 1, Integer.MIN_VALUE}};
        for (int[] w : wrong) {
            String call = "weather(" + w[0] + ", " + w[1] + ", " + w[2] + ", false, " + w[3] + ")";
            D.due(call, x.weather(w[0], w[1], w[2], false, w[3]), -1);
            D.due("status() behind " + call, x.status(), -1);
            D.due("wind stays behind " + call, x.hour(5, 0), 9);
            D.due("light stays behind " + call, x.hour(5, 1), 1);
            D.due("cold stays behind " + call, x.hour(5, 2), -9);
        }
        D.due("weather that can be", x.weather(5, 5, 1, true, 1), 0);
        D.due("status() 0 again", x.status(), 0);
    }

    private static void hourAnswers() {
        WinterStation x = new WinterStation();
        x.weather(25, 25, 40, true, -30);
        x.mill(40, 77);
        x.demand(1, 999);
        D.due("rules", Due.rules(x, "if wind>39 and hour<2 ration 33"), 1);
        D.due("hour(25, 3)", x.hour(25, 3), 33);
        D.due("hour(25, 4): 999 less 329.67 that is cut to 329", x.hour(25, 4), 670);
        D.due("hour(25, 5)", x.hour(25, 5), 77);
        D.due("hour(1, 3)", x.hour(1, 3), 0);
        D.due("hour(1, 4)", x.hour(1, 4), 999);
        D.due("hour(2377, 4): its hour of the day is 1", x.hour(2377, 4), 999);
        for (int h : new int[] {-1, 2400, Integer.MIN_VALUE, Integer.MAX_VALUE}) {
            for (int what = -1; what <= 6; what++) {
                D.due("hour(" + h + ", " + what + ")", x.hour(h, what), -1000);
            }
        }
        for (int what : new int[] {-1, 6, Integer.MIN_VALUE, Integer.MAX_VALUE}) {
            D.due("hour(0, " + what + ")", x.hour(0, what), -1000);
        }
        D.due("hour does not touch status()", x.status(), 0);
    }

    private static void landings() {
        WinterStation x = new WinterStation();
        x.weather(100, 102, 15, true, -50);
        D.due("land(0)", x.land(0), 100);
        D.due("land(100)", x.land(100), 100);
        D.due("land(101)", x.land(101), -1);
        x.weather(101, 101, 16, true, -50);
        D.due("wind 16", x.land(0), -1);
        x.weather(101, 101, 15, false, -50);
        D.due("no light", x.land(0), -1);
        x.weather(101, 101, 15, true, -51);
        D.due("cold -51", x.land(0), -1);
        x.weather(101, 104, 0, true, 20);
        D.due("land(0) again", x.land(0), 100);
        x.weather(100, 100, 60, true, 20);
        D.due("land(0) one later", x.land(0), 101);
        x.go(150);
        D.due("land looks at any hour, not from now", x.land(0), 101);
    }

    private static void landingEdges() {
        WinterStation x = new WinterStation();
        x.weather(2398, 2399, 0, true, 0);
        D.due("two hours are not enough", x.land(0), -1);
        x.weather(2397, 2397, 0, true, 0);
        D.due("land(2397)", x.land(2397), 2397);
        D.due("land(2398)", x.land(2398), -1);
        D.due("land(2399)", x.land(2399), -1);
        x.weather(0, 2, 0, true, 0);
        for (int from : new int[] {-1, 2400, Integer.MIN_VALUE, Integer.MAX_VALUE}) {
            D.due("land(" + from + ")", x.land(from), -1);
        }
        D.due("land does not touch status()", x.status(), 0);
    }
}
