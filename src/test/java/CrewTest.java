import java.util.Arrays;
import java.util.Random;

/** Promises 13 to 17: person, ill, work, schedule, begins. */
public final class CrewTest {
    private static final Due D = new Due("CrewTest");

    public static void main(String[] args) {
        people();
        spells();
        works();
        scheduleEdges();
        endOfHours();
        weatherOfWorks();
        illness();
        rests();
        beginsAnswers();
        Random random = new Random(13);
        for (int round = 0; round < 150; round++) {
            againstHourByHour(random);
        }
        D.end();
    }

    private static void people() {
        WinterStation x = new WinterStation();
        for (int skills : new int[] {-1, 256, Integer.MIN_VALUE, Integer.MAX_VALUE}) {
            D.due("person(" + skills + ")", x.person(skills), -1);
            D.due("status", x.status(), -1);
        }
        for (int i = 0; i < 14; i++) {
            D.due("person " + i, x.person(i % 2 == 0 ? 0 : 255), i);
            D.due("status", x.status(), 0);
        }
        D.due("the fifteenth", x.person(0), -5);
        D.due("status", x.status(), -5);
        D.due("a wrong number is told ahead of no room", x.person(256), -1);
        D.due("count(4)", x.count(4), 14);
    }

    private static void spells() {
        WinterStation x = new WinterStation();
        D.due("no one is there", x.ill(0, 0, 0), -2);
        D.due("status", x.status(), -2);
        x.person(0);
        int[][] wrong = {{-1, 0}, {0, 2400}, {5, 4}, {2400, 2400}, {Integer.MIN_VALUE, 5},
            {5, Integer.MAX_VALUE}, {Integer.MAX_VALUE, Integer.MIN_VALUE}};
        for (int[] w : wrong) {
            D.due("ill(0, " + w[0] + ", " + w[1] + ")", x.ill(0, w[0], w[1]), -1);
            D.due("hours are told ahead of no such person", x.ill(1, w[0], w[1]), -1);
        }
        for (int person : new int[] {-1, 1, 14, Integer.MIN_VALUE, Integer.MAX_VALUE}) {
            D.due("ill(" + person + ", 0, 0)", x.ill(person, 0, 0), -2);
        }
        for (int i = 1; i <= 30; i++) {
            D.due("spell " + i, x.ill(0, 0, 2399), i);
            D.due("status", x.status(), 0);
        }
        D.due("one more", x.ill(0, 5, 5), -5);
        D.due("status", x.status(), -5);
        D.due("no such person is told ahead of no room", x.ill(1, 5, 5), -2);
        D.due("a wrong number is told ahead of no room", x.ill(0, 6, 5), -1);
    }

    private static void works() {
        WinterStation x = new WinterStation();
        int[][] wrong = {{0, 1, 0, 0}, {25, 1, 0, 0}, {1, 0, 0, 0}, {1, 5, 0, 0}, {1, 1, -1, 0},
            {1, 1, 256, 0}, {1, 1, 0, -1}, {1, 1, 0, 4}, {Integer.MAX_VALUE, 1, 0, 0},
            {1, Integer.MIN_VALUE, 0, 0}, {1, 1, Integer.MAX_VALUE, 0}, {1, 1, 0, Integer.MIN_VALUE}};
        for (int[] w : wrong) {
            D.due("work that can't be", x.work(w[0], w[1], w[2], w[3]), -1);
            D.due("status", x.status(), -1);
        }
        D.due("none is there", x.count(5), 0);
        for (int i = 0; i < 30; i++) {
            boolean great = i % 2 == 0;
            D.due("work " + i, x.work(great ? 24 : 1, great ? 4 : 1, great ? 255 : 0, i % 4), i);
            D.due("status", x.status(), 0);
        }
        D.due("one more", x.work(1, 1, 0, 0), -5);
        D.due("status", x.status(), -5);
        D.due("a wrong number is told ahead of no room", x.work(0, 1, 0, 0), -1);
        D.due("count(5)", x.count(5), 30);
        D.due("without people all are left", x.schedule(), 30);
        D.due("schedule does not touch status()", x.status(), -1);
    }

    private static void scheduleEdges() {
        WinterStation x = new WinterStation();
        x.person(1);
        x.ill(0, 0, 298);
        x.work(1, 1, 1, 0);
        D.due("the 300th hour", x.schedule(), 0);
        D.due("it begins", x.begins(0, 0), 299);
        x.ill(0, 299, 299);
        D.due("the 301st is too late", x.schedule(), 1);
        D.due("left", x.begins(0, 0), -1);
        D.due("left", x.begins(0, 1), -1);
        x.go(1);
        D.due("from the next hour on it is the 300th", x.schedule(), 0);
        D.due("it begins", x.begins(0, 0), 300);

        WinterStation y = new WinterStation();
        y.person(0);
        y.work(24, 1, 0, 0);
        y.ill(0, 0, 298);
        D.due("it may end behind the 300 hours", y.schedule(), 0);
        D.due("it begins", y.begins(0, 0), 299);
    }

    private static void endOfHours() {
        WinterStation x = new WinterStation();
        x.person(0);
        x.work(24, 1, 0, 0);
        for (int i = 0; i < 11; i++) {
            x.go(200);
        }
        x.go(176);
        D.due("now", x.count(0), 2376);
        D.due("it ends with hour 2399", x.schedule(), 0);
        D.due("it begins", x.begins(0, 0), 2376);
        x.go(1);
        D.due("it would end behind", x.schedule(), 1);
        x.work(1, 1, 0, 0);
        x.go(22);
        D.due("now", x.count(0), 2399);
        D.due("one is left", x.schedule(), 1);
        D.due("the last hour", x.begins(1, 0), 2399);
    }

    private static void weatherOfWorks() {
        WinterStation x = new WinterStation();
        for (int i = 0; i < 4; i++) {
            x.person(0);
            x.work(2, 1, 0, i);
        }
        x.weather(0, 299, 0, false, -90);
        D.due("bound -90 without rules: by light are left", x.schedule(), 2);
        D.due("inside", x.begins(0, 0), 0);
        D.due("outside", x.begins(1, 0), 0);
        Due.rules(x, "cold 60");
        x.weather(10, 10, 0, true, -60);
        x.weather(12, 13, 0, true, -61);
        x.weather(20, 21, 0, false, -60);
        x.weather(30, 31, 0, true, -60);
        D.due("all have a place", x.schedule(), 0);
        D.due("inside", x.begins(0, 0), 0);
        D.due("outside: not below the bound", x.begins(1, 0), 20);
        D.due("by light", x.begins(2, 0), 12);
        D.due("both", x.begins(3, 0), 30);
        Due.rules(x, "cold 0");
        D.due("bound 0", x.count(12), 0);
        D.due("bound 0: from hour 300 on it would be warm enough", x.schedule(), 2);
        x.weather(40, 41, 0, true, 0);
        D.due("cold 0 is not below it", x.schedule(), 0);
        D.due("outside", x.begins(1, 0), 40);
        D.due("both, by another person", x.begins(3, 0), 40);
        D.due("the lowest goes", x.begins(1, 1), 1);
        D.due("the next goes", x.begins(3, 1), 2);
    }

    private static void illness() {
        WinterStation x = new WinterStation();
        x.person(7);
        x.person(2);
        x.person(6);
        x.work(3, 1, 4, 0);
        x.work(2, 2, 2, 0);
        x.ill(0, 2, 2);
        D.due("schedule()", x.schedule(), 0);
        D.due("0 is ill in its last hour, so 2 is at it", x.begins(0, 1), 4);
        D.due("at once", x.begins(0, 0), 0);
        D.due("0 and 1", x.begins(1, 1), 3);
        D.due("at once", x.begins(1, 0), 0);
        x.ill(2, 0, 0);
        D.due("schedule()", x.schedule(), 0);
        D.due("2 from hour 1 on", x.begins(0, 0), 1);
        D.due("2", x.begins(0, 1), 4);
        x.ill(2, 3, 40);
        D.due("schedule()", x.schedule(), 0);
        D.due("0 behind its spell", x.begins(0, 0), 3);
        D.due("0", x.begins(0, 1), 1);
        D.due("0 and 1 ahead of it", x.begins(1, 0), 0);
        D.due("0 and 1", x.begins(1, 1), 3);
    }

    private static void rests() {
        WinterStation x = new WinterStation();
        x.person(0);
        x.work(2, 1, 0, 0);
        x.work(3, 1, 0, 0);
        D.due("without rest", x.schedule(), 0);
        D.due("next begins at once", x.begins(1, 0), 2);
        Due.rules(x, "rest 8");
        D.due("rest 8", x.schedule(), 0);
        D.due("next begins 8 hours behind", x.begins(1, 0), 10);
        x.ill(0, 0, 10);
        D.due("all later", x.schedule(), 0);
        D.due("first", x.begins(0, 0), 11);
        D.due("second", x.begins(1, 0), 21);

        WinterStation y = new WinterStation();
        y.person(0);
        y.work(1, 1, 0, 2);
        y.work(3, 1, 0, 0);
        y.work(4, 1, 0, 0);
        y.weather(11, 11, 0, true, 0);
        Due.rules(y, "rest 8");
        D.due("a gap ahead", y.schedule(), 0);
        D.due("by light", y.begins(0, 0), 11);
        D.due("just fits ahead of it: 3 and 8", y.begins(1, 0), 0);
        D.due("does not: behind it", y.begins(2, 0), 20);
        Due.rules(y, "rest 1000");
        D.due("rest 1000", y.schedule(), 2);
    }

    private static void beginsAnswers() {
        WinterStation x = new WinterStation();
        x.person(0);
        x.person(0);
        x.work(1, 2, 0, 0);
        D.due("ahead of any schedule", x.begins(0, 0), -1);
        x.schedule();
        D.due("begins(0, 0)", x.begins(0, 0), 0);
        D.due("begins(0, 1)", x.begins(0, 1), 3);
        D.due("begins(0, 2)", x.begins(0, 2), -1);
        D.due("begins(0, -1)", x.begins(0, -1), -1);
        for (int work : new int[] {-1, 1, 30, Integer.MIN_VALUE, Integer.MAX_VALUE}) {
            D.due("begins(" + work + ", 0)", x.begins(work, 0), -1);
            D.due("begins(" + work + ", 1)", x.begins(work, 1), -1);
        }
        x.work(1, 1, 0, 0);
        D.due("not in the latest schedule", x.begins(1, 0), -1);
        x.ill(0, 0, 0);
        x.go(5);
        D.due("the latest schedule is kept", x.begins(0, 0), 0);
        x.schedule();
        D.due("from now", x.begins(0, 0), 5);
        D.due("in the latest schedule", x.begins(1, 0), 6);
        D.due("begins does not touch status()", x.status(), 0);
    }

    /** Holds schedules against a table of hours in which each person can't begin or be at work. */
    private static void againstHourByHour(Random random) {
        WinterStation x = new WinterStation();
        int people = random.nextInt(6);
        int works = random.nextInt(12);
        int rest = random.nextInt(4) * random.nextInt(4);
        int bound = -random.nextInt(40);
        int[] skills = new int[people];
        boolean[][] ill = new boolean[people][2400];
        for (int p = 0; p < people; p++) {
            skills[p] = random.nextInt(8) | random.nextInt(8);
            x.person(skills[p]);
        }
        for (int s = 0; s < 12 && people > 0; s++) {
            int p = random.nextInt(people);
            int from = random.nextInt(250);
            int to = from + random.nextInt(s < 2 ? 300 : 6);
            x.ill(p, from, to);
            for (int h = from; h <= to; h++) {
                ill[p][h] = true;
            }
        }
        boolean[] light = new boolean[2400];
        int[] cold = new int[2400];
        for (int from = 0; from < 340; from += 5) {
            int to = from + random.nextInt(9);
            Arrays.fill(light, from, to + 1, random.nextInt(3) > 0);
            Arrays.fill(cold, from, to + 1, -random.nextInt(45));
            x.weather(from, to, 0, light[from], cold[from]);
        }
        Due.rules(x, "rest " + rest + ";cold " + -bound);
        int now = random.nextInt(3) * 20;
        if (now > 0) {
            x.go(now);
        }
        int[][] work = new int[works][];
        for (int w = 0; w < works; w++) {
            work[w] = new int[] {1 + random.nextInt(7), 1 + random.nextInt(3), random.nextInt(4),
                random.nextInt(4)};
            x.work(work[w][0], work[w][1], work[w][2], work[w][3]);
        }
        int left = x.schedule();
        boolean[][] taken = new boolean[people][6000];
        int dueLeft = 0;
        for (int w = 0; w < works; w++) {
            int begin = -1;
            int who = -1;
            for (int s = now; s < now + 300 && begin < 0; s++) {
                int bits = isWeather(work[w], s, bound, light, cold) ? whoCan(work[w], s, skills, ill, taken) : 0;
                if (bits != 0) {
                    begin = s;
                    who = bits;
                }
            }
            D.due("random begins(" + w + ", 0)", x.begins(w, 0), begin);
            D.due("random begins(" + w + ", 1)", x.begins(w, 1), who);
            for (int p = 0; p < people && begin >= 0; p++) {
                for (int h = begin - rest; h < begin + work[w][0] + rest; h++) {
                    taken[p][1000 + h] |= (who >> p & 1) == 1;
                }
            }
            dueLeft += begin < 0 ? 1 : 0;
        }
        D.due("random schedule()", left, dueLeft);
    }

    private static boolean isWeather(int[] work, int s, int bound, boolean[] light, int[] cold) {
        for (int h = s; h < s + work[0]; h++) {
            if (h > 2399 || work[3] >= 2 && !light[h] || work[3] % 2 == 1 && cold[h] < bound) {
                return false;
            }
        }
        return true;
    }

    private static int whoCan(int[] work, int s, int[] skills, boolean[][] ill, boolean[][] taken) {
        int bits = 0;
        for (int p = 0; p < skills.length && Integer.bitCount(bits) < work[1]; p++) {
            boolean can = (skills[p] & work[2]) == work[2];
            for (int h = s; h < s + work[0]; h++) {
                can &= !ill[p][h] && !taken[p][1000 + h];
            }
            bits |= can ? 1 << p : 0;
        }
        return Integer.bitCount(bits) == work[1] ? bits : 0;
    }
}
