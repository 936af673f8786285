import java.util.Random;

/** Any calls with any numbers: none throws, and none answers what no promise knows. */
public final class AnyCallTest {
    private static final Due D = new Due("AnyCallTest");
    private static final int[] ODD = {Integer.MIN_VALUE, Integer.MIN_VALUE + 1, -1001, -91, -2, -1, 0, 1, 2, 3, 4,
        9, 13, 15, 20, 23, 24, 29, 60, 99, 100, 255, 256, 299, 400, 1000, 2399, 2400, 10000, 100000,
        Integer.MAX_VALUE - 1, Integer.MAX_VALUE};

    public static void main(String[] args) {
        Random random = new Random(30);
        for (int round = 0; round < 300; round++) {
            WinterStation x = new WinterStation();
            // One of thirty feeds rules, which takes five calls, so that 400 stay below 512.
            for (int call = 0; call < 400; call++) {
                oneCall(x, random, round % 3);
            }
        }
        D.end();
    }

    private static int number(Random random, int sort) {
        if (sort == 0 || random.nextInt(12) == 0) {
            return ODD[random.nextInt(ODD.length)];
        }
        return random.nextInt(sort == 1 ? 6 : 30);
    }

    private static void oneCall(WinterStation x, Random r, int sort) {
        int a = number(r, sort);
        int b = number(r, sort);
        int c = number(r, sort);
        int d = number(r, sort);
        int answer = answer(x, r.nextInt(30), new int[] {a, b, c, d}, r);
        D.due("an answer not below -1000", answer < -1000 ? 1 : 0, 0);
    }

    private static int answer(WinterStation x, int call, int[] n, Random r) {
        switch (call) {
            case 0: return x.weather(n[0], n[1], n[2], r.nextBoolean(), n[3]);
            case 1: return x.hour(n[0], n[1]);
            case 2: return x.engine(n[0], n[1], n[2]);
            case 3: return x.mill(n[0], n[1]);
            case 4: return x.demand(n[0], n[1]);
            case 5: return x.on(n[0]);
            case 6: return x.plan(n[0]);
            case 7: return x.planned(n[0], n[1]);
            case 8: return x.box(n[0], n[1]);
            case 9: return x.take(n[0]);
            case 10: return x.stack(n[0], n[1]);
            case 11: return x.person(n[0]);
            case 12: return x.ill(n[0], n[1], n[2]);
            case 13: return x.work(n[0], n[1], n[2], n[3]);
            case 14: return x.schedule();
            case 15: return x.begins(n[0], n[1]);
            case 16: return x.feed(r.nextInt(), r.nextInt(), r.nextInt(), r.nextInt(), r.nextInt());
            case 17: return x.end(n[0]);
            case 18: return x.rules();
            case 19: return x.fault();
            case 20: return x.radio(n[0], n[1], n[2]);
            case 21: return x.message(n[0], n[1]);
            case 22: return x.fail(n[0], n[1]);
            case 23: return x.go(n[0]);
            case 24: return x.sent(n[0], n[1]);
            case 25: return x.arrived(n[0], n[1]);
            case 26: return x.land(n[0]);
            case 27: return x.count(n[0]);
            case 28: return x.status();
            default: return Due.rules(x, "if wind<" + r.nextInt(9) + " ration " + r.nextInt(120));
        }
    }
}
