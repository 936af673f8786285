import java.util.Random;

/** Promises 4 to 9: engine, mill, demand, on, plan, planned. */
public final class PowerTest {
    private static final Due D = new Due("PowerTest");

    public static void main(String[] args) {
        engines();
        millAndDemand();
        ahead();
        planEdges();
        planIsKept();
        lowerFirst();
        lackAheadOfFuel();
        longPlans();
        Random random = new Random(4);
        for (int round = 0; round < 400; round++) {
            againstEveryPlan(random);
        }
        D.end();
    }

    private static void engines() {
        WinterStation x = new WinterStation();
        int[][] wrong = {{0, 0, 0}, {1001, 0, 0}, {1, -1, 0}, {1, 1001, 0}, {1, 0, -1}, {1, 0, 1001},
            {Integer.MIN_VALUE, 0, 0}, {1, Integer.MAX_VALUE, 0}, {1, 0, Integer.MIN_VALUE}};
        for (int[] w : wrong) {
            D.due("engine that can't be", x.engine(w[0], w[1], w[2]), -1);
            D.due("status", x.status(), -1);
        }
        D.due("none is there", x.count(1), 0);
        D.due("engine(1, 0, 0)", x.engine(1, 0, 0), 0);
        D.due("status", x.status(), 0);
        D.due("engine(1000, 1000, 1000)", x.engine(1000, 1000, 1000), 1);
        D.due("third", x.engine(5, 5, 5), 2);
        D.due("fourth", x.engine(5, 5, 5), 3);
        D.due("fifth", x.engine(5, 5, 5), -5);
        D.due("status", x.status(), -5);
        D.due("a wrong number is told ahead of no room", x.engine(0, 5, 5), -1);
        D.due("count(1)", x.count(1), 4);
    }

    private static void millAndDemand() {
        WinterStation x = new WinterStation();
        D.due("mill(0, 1000)", x.mill(0, 1000), 0);
        D.due("mill(60, 1)", x.mill(60, 1), 0);
        x.weather(1, 1, 60, false, 0);
        D.due("gives of wind 0", x.hour(0, 5), 1000);
        D.due("gives of wind 60", x.hour(1, 5), 1);
        D.due("demand(0, 10000)", x.demand(0, 10000), 0);
        D.due("demand(23, 1)", x.demand(23, 1), 0);
        int[][] wrongMill = {{-1, 5}, {61, 5}, {0, -1}, {0, 1001}, {Integer.MAX_VALUE, 5},
            {Integer.MIN_VALUE, 5}};
        for (int[] w : wrongMill) {
            D.due("mill(" + w[0] + ", " + w[1] + ")", x.mill(w[0], w[1]), -1);
            D.due("status", x.status(), -1);
        }
        D.due("mill(0, 0)", x.mill(0, 0), 0);
        D.due("gives of wind 0", x.hour(0, 5), 0);
        int[][] wrongDemand = {{-1, 5}, {24, 5}, {0, -1}, {0, 10001}, {Integer.MAX_VALUE, 5},
            {Integer.MIN_VALUE, 5}};
        for (int[] w : wrongDemand) {
            D.due("demand(" + w[0] + ", " + w[1] + ")", x.demand(w[0], w[1]), -1);
            D.due("status", x.status(), -1);
        }
        D.due("demand of hour 0", x.hour(0, 4), 10000);
        D.due("demand of hour 23", x.hour(23, 4), 1);
        D.due("demand of hour 2376", x.hour(2376, 4), 10000);
        D.due("demand(0, 0)", x.demand(0, 0), 0);
        D.due("status", x.status(), 0);
        D.due("demand of hour 0", x.hour(0, 4), 0);
    }

    private static void ahead() {
        WinterStation x = new WinterStation();
        D.due("on(0) without engines", x.on(0), 0);
        D.due("on(1) without engines", x.on(1), -1);
        D.due("status", x.status(), -1);
        x.engine(10, 7, 1);
        x.engine(10, 3, 2);
        D.due("on(3)", x.on(3), 0);
        D.due("on(4)", x.on(4), -1);
        D.due("on(-1)", x.on(-1), -1);
        D.due("on(min)", x.on(Integer.MIN_VALUE), -1);
        D.due("on(max)", x.on(Integer.MAX_VALUE), -1);
        D.due("on(1)", x.on(1), 3);
        D.due("status", x.status(), 0);
        x.demand(0, 20);
        D.due("plan: engine 1 starts alone", x.plan(1), 6);
        D.due("on(2): a plan does not change it", x.on(2), 1);
        D.due("plan: engine 0 starts alone", x.plan(1), 10);
        D.due("on(0)", x.on(0), 2);
        D.due("plan: both start", x.plan(1), 13);
        x.on(3);
        x.go(1);
        D.due("go does not change it", x.on(3), 3);
        x.engine(1, 1, 1);
        D.due("nor does an engine", x.on(7), 3);
    }

    private static void planEdges() {
        WinterStation x = new WinterStation();
        x.demand(0, 8);
        for (int n : new int[] {0, -1, 101, Integer.MIN_VALUE, Integer.MAX_VALUE}) {
            D.due("plan(" + n + ")", x.plan(n), -1);
            D.due("status", x.status(), -1);
        }
        D.due("no plan was made", x.planned(-1, 0), -1);
        D.due("plan(100) without engines", x.plan(100), 0);
        D.due("status", x.status(), 0);
        D.due("hours", x.planned(-1, 0), 100);
        D.due("lacks", x.planned(-1, 1), 40);
        D.due("bits of 99", x.planned(99, 0), 0);
        D.due("lack of 96", x.planned(96, 1), 8);
        D.due("lack of 97", x.planned(97, 1), 0);
        D.due("planned(100, 0)", x.planned(100, 0), -1);
        D.due("planned(100, 1)", x.planned(100, 1), -1);
        D.due("planned(-2, 0)", x.planned(-2, 0), -1);
        D.due("planned(-1, 2)", x.planned(-1, 2), -1);
        D.due("planned(0, 2)", x.planned(0, 2), -1);
        D.due("planned(0, -1)", x.planned(0, -1), -1);
        D.due("planned(max, 0)", x.planned(Integer.MAX_VALUE, 0), -1);
        D.due("planned(min, 0)", x.planned(Integer.MIN_VALUE, 0), -1);
        for (int i = 0; i < 12; i++) {
            x.go(i < 11 ? 200 : 199);
        }
        D.due("now", x.count(0), 2399);
        D.due("plan(2) at hour 2399", x.plan(2), -1);
        D.due("the old plan stays", x.planned(-1, 0), 100);
        D.due("plan(1) at hour 2399", x.plan(1), 0);
        D.due("hours", x.planned(-1, 0), 1);
        D.due("planned(1, 0) of a shorter plan", x.planned(1, 0), -1);
    }

    private static void planIsKept() {
        WinterStation x = new WinterStation();
        x.engine(10, 1, 1);
        x.demand(0, 12);
        x.demand(1, 9);
        D.due("plan(2)", x.plan(2), 3);
        x.demand(0, 0);
        x.mill(0, 1000);
        x.engine(100, 0, 0);
        x.go(1);
        D.due("refused plan", x.plan(0), -1);
        D.due("bits of 0", x.planned(0, 0), 1);
        D.due("lack of 0", x.planned(0, 1), 2);
        D.due("bits of 1", x.planned(1, 0), 1);
        D.due("lacks", x.planned(-1, 1), 2);
        D.due("hours", x.planned(-1, 0), 2);
        D.due("planned does not touch status()", x.status(), -1);
        D.due("plan(1) from now", x.plan(1), 0);
        D.due("bits of 0", x.planned(0, 0), 0);
    }

    private static void lowerFirst() {
        WinterStation x = new WinterStation();
        x.engine(10, 2, 3);
        x.engine(10, 2, 3);
        x.demand(0, 10);
        x.demand(1, 0);
        x.demand(2, 10);
        D.due("plan(3)", x.plan(3), 10);
        D.due("the lower engine first", x.planned(0, 0), 1);
        D.due("off in between", x.planned(1, 0), 0);
        D.due("the lower engine again", x.planned(2, 0), 1);
        x.on(2);
        D.due("plan(3) with 1 on", x.plan(3), 8);
        D.due("1 runs on", x.planned(0, 0), 2);
        D.due("off", x.planned(1, 0), 0);
        D.due("0 starts", x.planned(2, 0), 1);

        WinterStation y = new WinterStation();
        y.engine(10, 4, 4);
        y.demand(0, 10);
        y.demand(2, 10);
        D.due("running on costs as much as a start", y.plan(3), 16);
        D.due("so it is off", y.planned(1, 0), 0);

        WinterStation z = new WinterStation();
        z.engine(10, 0, 0);
        D.due("an engine for nothing", z.plan(2), 0);
        D.due("does not run", z.planned(0, 0), 0);
    }

    private static void lackAheadOfFuel() {
        WinterStation x = new WinterStation();
        x.engine(1, 1000, 1000);
        x.demand(0, 10000);
        D.due("all fuel for 1 less", x.plan(1), 2000);
        D.due("lack", x.planned(0, 1), 9999);
        Due.rules(x, "if hour<1 ration 100");
        D.due("no demand is left", x.plan(1), 0);
        D.due("lack", x.planned(0, 1), 0);
        Due.rules(x, "");
        x.mill(0, 1000);
        x.demand(0, 1000);
        D.due("mill gives all", x.plan(1), 0);
        x.demand(0, 1001);
        D.due("but for 1", x.plan(1), 2000);
    }

    private static void longPlans() {
        WinterStation x = new WinterStation();
        for (int i = 0; i < 4; i++) {
            x.engine(1000, 1000, 1000);
        }
        for (int h = 0; h < 24; h++) {
            x.demand(h, 10000);
        }
        D.due("plan(100)", x.plan(100), 404000);
        D.due("lacks", x.planned(-1, 1), 600000);
        for (int h = 0; h < 24; h += 2) {
            x.demand(h, 0);
        }
        D.due("running on or starting again are alike", x.plan(100), 400000);
        D.due("lacks of this plan alone", x.planned(-1, 1), 300000);
        D.due("hour 0", x.planned(0, 0), 0);
        D.due("hour 1", x.planned(1, 0), 15);
        D.due("hour 2", x.planned(2, 0), 0);
        D.due("hour 99", x.planned(99, 0), 15);
    }

    /** Holds a plan against all plans that there are, in the order of their bits. */
    private static void againstEveryPlan(Random random) {
        WinterStation x = new WinterStation();
        int engines = random.nextInt(5);
        int[] most = {100, 6, 4, 3, 2};
        int n = 1 + random.nextInt(Math.min(6, most[engines]));
        int[] output = new int[engines];
        int[] start = new int[engines];
        int[] burn = new int[engines];
        for (int e = 0; e < engines; e++) {
            output[e] = 1 + random.nextInt(4);
            start[e] = random.nextInt(4);
            burn[e] = random.nextInt(4);
            x.engine(output[e], start[e], burn[e]);
        }
        int now = random.nextInt(20);
        if (now > 0) {
            x.go(now);
        }
        for (int h = 0; h < 24; h++) {
            x.demand(h, random.nextInt(12));
        }
        for (int h = 0; h < 30; h++) {
            x.weather(h, h, random.nextInt(4), false, random.nextInt(20) - 10);
        }
        x.mill(2, 2);
        x.mill(3, 5);
        Due.rules(x, "if cold<-5 ration 40;if hour>9and cold<0ration 15");
        int on = random.nextInt(1 << engines);
        x.on(on);
        int[] need = new int[n];
        for (int i = 0; i < n; i++) {
            need[i] = x.hour(now + i, 4) - x.hour(now + i, 5);
        }
        int[] best = null;
        int bestLack = 0;
        int bestFuel = 0;
        for (int p = 0; p < 1 << engines * n; p++) {
            int[] sets = new int[n];
            int lack = 0;
            int fuel = 0;
            int before = on;
            for (int i = 0; i < n; i++) {
                sets[i] = p >> engines * (n - 1 - i) & (1 << engines) - 1;
                int left = need[i];
                for (int e = 0; e < engines; e++) {
                    if ((sets[i] >> e & 1) == 1) {
                        left -= output[e];
                        fuel += burn[e] + ((before >> e & 1) == 1 ? 0 : start[e]);
                    }
                }
                lack += Math.max(0, left);
                before = sets[i];
            }
            if (best == null || lack < bestLack || lack == bestLack && fuel < bestFuel) {
                best = sets;
                bestLack = lack;
                bestFuel = fuel;
            }
        }
        D.due("random plan: fuel", x.plan(n), bestFuel);
        D.due("random plan: lacks", x.planned(-1, 1), bestLack);
        int lacks = 0;
        for (int i = 0; i < n; i++) {
            D.due("random plan: bits of " + i, x.planned(i, 0), best[i]);
            lacks += x.planned(i, 1);
        }
        D.due("random plan: lacks one by one", lacks, bestLack);
    }
}
