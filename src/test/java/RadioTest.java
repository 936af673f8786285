import java.util.Random;

/** Promises 22 to 27: radio, message, fail, go, sent, arrived. */
public final class RadioTest {
    private static final Due D = new Due("RadioTest");

    public static void main(String[] args) {
        radioHours();
        messages();
        failures();
        hoursGoBy();
        ranks();
        sentAnswers();
        arrivals();
        Random random = new Random(22);
        for (int round = 0; round < 60; round++) {
            againstHours(random);
        }
        D.end();
    }

    private static void radioHours() {
        WinterStation x = new WinterStation();
        int[][] wrong = {{-1, 5, 1}, {0, 24, 1}, {5, 4, 1}, {24, 24, 1}, {24, 23, 1}, {0, 23, 0}, {0, 23, 1001},
            {0, 23, -1}, {Integer.MIN_VALUE, 5, 1}, {0, Integer.MAX_VALUE, 1}, {0, 5, Integer.MAX_VALUE}};
        for (int[] w : wrong) {
            D.due("radio that can't be", x.radio(w[0], w[1], w[2]), -1);
            D.due("status", x.status(), -1);
        }
        x.message(10000, 0);
        x.go(25);
        D.due("at first all hours, 100 bytes each", x.sent(0, 0), 2500);
        D.due("radio(2, 2, 1000)", x.radio(2, 2, 1000), 0);
        D.due("status", x.status(), 0);
        x.go(1);
        D.due("hour 25 is none", x.sent(0, 0), 2500);
        x.go(1);
        D.due("hour 26 is one", x.sent(0, 0), 3500);
        x.go(1);
        D.due("hour 27 is none", x.sent(0, 0), 3500);
        D.due("radio(23, 23, 1)", x.radio(23, 23, 1), 0);
        x.go(24);
        D.due("one byte a day", x.sent(0, 0), 3501);
        D.due("radio(0, 0, 2)", x.radio(0, 0, 2), 0);
        x.go(48);
        D.due("two bytes a day", x.sent(0, 0), 3505);
        D.due("count(9)", x.count(9), 3505);
    }

    private static void messages() {
        WinterStation x = new WinterStation();
        int[][] wrong = {{0, 0}, {10001, 0}, {1, -1}, {1, 4}, {Integer.MIN_VALUE, 0}, {1, Integer.MAX_VALUE}};
        for (int[] w : wrong) {
            D.due("message(" + w[0] + ", " + w[1] + ")", x.message(w[0], w[1]), -1);
            D.due("status", x.status(), -1);
        }
        for (int i = 0; i < 100; i++) {
            D.due("message " + i, x.message(i % 2 == 0 ? 1 : 10000, i % 4), i);
            D.due("status", x.status(), 0);
        }
        D.due("one more", x.message(1, 0), -5);
        D.due("status", x.status(), -5);
        D.due("a wrong number is told ahead of no room", x.message(0, 0), -1);
        D.due("count(7)", x.count(7), 100);
        D.due("sent(99, 0)", x.sent(99, 0), 0);
    }

    private static void failures() {
        WinterStation x = new WinterStation();
        int[][] wrong = {{-1, 0}, {2400, 0}, {0, -1}, {0, 100001}, {Integer.MIN_VALUE, 0},
            {0, Integer.MAX_VALUE}};
        for (int[] w : wrong) {
            D.due("fail(" + w[0] + ", " + w[1] + ")", x.fail(w[0], w[1]), -1);
            D.due("status", x.status(), -1);
        }
        for (int i = 1; i <= 60; i++) {
            D.due("failure " + i, x.fail(2399, i % 2 == 0 ? 0 : 100000), i);
            D.due("status", x.status(), 0);
        }
        D.due("one more", x.fail(0, 0), -5);
        D.due("status", x.status(), -5);
        D.due("a wrong number is told ahead of no room", x.fail(0, -1), -1);
        D.due("count(8)", x.count(8), 60);
    }

    private static void hoursGoBy() {
        WinterStation x = new WinterStation();
        for (int hours : new int[] {0, -1, 201, Integer.MIN_VALUE, Integer.MAX_VALUE}) {
            D.due("go(" + hours + ")", x.go(hours), -1);
            D.due("status", x.status(), -1);
        }
        D.due("now", x.count(0), 0);
        D.due("go(1)", x.go(1), 1);
        D.due("status", x.status(), 0);
        for (int i = 1; i <= 11; i++) {
            D.due("go(200)", x.go(200), 1 + 200 * i);
        }
        x.message(50, 1);
        D.due("above 2399", x.go(199), -1);
        D.due("nothing is sent", x.sent(0, 0), 0);
        D.due("to 2399", x.go(198), 2399);
        D.due("in the hour in which it was told", x.sent(0, 1), 2201);
        D.due("no hour more", x.go(1), -1);
        D.due("now", x.count(0), 2399);
    }

    private static void ranks() {
        WinterStation x = new WinterStation();
        x.message(150, 1);
        x.message(30, 3);
        x.message(30, 3);
        x.message(10, 0);
        x.go(1);
        D.due("greatest rank", x.sent(1, 0), 30);
        D.due("then the lower number", x.sent(2, 0), 30);
        D.due("what is left goes on", x.sent(0, 0), 40);
        D.due("and no further", x.sent(3, 0), 0);
        x.message(60, 2);
        x.go(1);
        D.due("a new one of a greater rank", x.sent(4, 0), 60);
        D.due("then what was begun", x.sent(0, 0), 80);
        x.go(1);
        D.due("its end", x.sent(0, 0), 150);
        D.due("all of the last", x.sent(3, 0), 10);
        D.due("count(9)", x.count(9), 280);
        x.go(5);
        D.due("count(9) stays", x.count(9), 280);
    }

    private static void sentAnswers() {
        WinterStation x = new WinterStation();
        x.go(3);
        x.message(250, 0);
        D.due("none is sent", x.sent(0, 0), 0);
        D.due("no first", x.sent(0, 1), -1);
        D.due("no last", x.sent(0, 2), -1);
        x.go(2);
        D.due("first", x.sent(0, 1), 3);
        D.due("not all", x.sent(0, 2), -1);
        x.go(1);
        D.due("first", x.sent(0, 1), 3);
        D.due("last", x.sent(0, 2), 5);
        D.due("what 3", x.sent(0, 3), -1);
        D.due("what -1", x.sent(0, -1), -1);
        for (int message : new int[] {-1, 1, 100, Integer.MIN_VALUE, Integer.MAX_VALUE}) {
            for (int what = 0; what <= 2; what++) {
                D.due("sent(" + message + ", " + what + ")", x.sent(message, what), -1);
            }
        }
        D.due("sent does not touch status()", x.status(), 0);
    }

    private static void arrivals() {
        WinterStation x = new WinterStation();
        x.message(250, 1);
        x.message(50, 0);
        x.go(1);
        D.due("not all is sent", x.arrived(0, 100000), 0);
        x.message(100, 2);
        x.go(3);
        D.due("arrived", x.arrived(0, 0), 1);
        x.fail(1, 0);
        D.due("hour 1 was the other's", x.arrived(0, 100000), 1);
        D.due("and that failed", x.arrived(2, 0), 0);
        x.fail(2, 50);
        D.due("not yet known", x.arrived(0, 49), 1);
        D.due("known", x.arrived(0, 50), 0);
        D.due("known later too", x.arrived(0, 100000), 0);
        x.fail(2, 20);
        D.due("known earlier by another", x.arrived(0, 20), 0);
        D.due("known by none", x.arrived(0, 19), 1);
        x.fail(3, 10);
        D.due("its last hour", x.arrived(0, 10), 0);
        D.due("the next message in that hour too", x.arrived(1, 10), 0);
        D.due("ahead of it", x.arrived(1, 9), 1);
        x.fail(0, 5);
        D.due("its first hour", x.arrived(0, 5), 0);
        x.message(5, 0);
        x.fail(4, 7);
        x.go(1);
        D.due("a failure told ahead", x.arrived(3, 7), 0);
        D.due("not known", x.arrived(3, 6), 1);
        D.due("arrived(0, -1)", x.arrived(0, -1), -1);
        D.due("arrived(0, 100001)", x.arrived(0, 100001), -1);
        for (int message : new int[] {-1, 4, 100, Integer.MIN_VALUE, Integer.MAX_VALUE}) {
            D.due("arrived(" + message + ", 0)", x.arrived(message, 0), -1);
        }
        D.due("arrived does not touch status()", x.status(), 0);
    }

    /** Holds sending against bytes that are sent one by one. */
    private static void againstHours(Random random) {
        WinterStation x = new WinterStation();
        int[] bytes = new int[100];
        int[] rank = new int[100];
        int[] sent = new int[100];
        boolean[][] used = new boolean[100][2400];
        int messages = 0;
        int now = 0;
        int first = 0;
        int last = 23;
        int perHour = 100;
        for (int i = 0; i < 40; i++) {
            int dice = random.nextInt(6);
            if (dice == 0) {
                first = random.nextInt(24);
                last = first + random.nextInt(24 - first);
                perHour = 1 + random.nextInt(200);
                D.due("random radio", x.radio(first, last, perHour), 0);
            } else if (dice == 1) {
                int go = 1 + random.nextInt(20);
                for (int h = now; h < now + go; h++) {
                    for (int b = 0; b < perHour && h % 24 >= first && h % 24 <= last; b++) {
                        int best = -1;
                        for (int m = 0; m < messages; m++) {
                            if (sent[m] < bytes[m] && (best < 0 || rank[m] > rank[best])) {
                                best = m;
                            }
                        }
                        if (best >= 0) {
                            sent[best]++;
                            used[best][h] = true;
                        }
                    }
                }
                now += go;
                D.due("random go", x.go(go), now);
            } else {
                bytes[messages] = 1 + random.nextInt(random.nextInt(400) + 1);
                rank[messages] = random.nextInt(4);
                D.due("random message", x.message(bytes[messages], rank[messages]), messages);
                messages++;
            }
        }
        int[][] failures = new int[random.nextInt(20)][];
        for (int f = 0; f < failures.length; f++) {
            failures[f] = new int[] {random.nextInt(now + 1), random.nextInt(50)};
            D.due("random fail", x.fail(failures[f][0], failures[f][1]), f + 1);
        }
        int all = 0;
        for (int m = 0; m < messages; m++) {
            int firstHour = -1;
            int lastHour = -1;
            for (int h = 0; h < 2400; h++) {
                firstHour = used[m][h] && firstHour < 0 ? h : firstHour;
                lastHour = used[m][h] ? h : lastHour;
            }
            D.due("random sent(m, 0)", x.sent(m, 0), sent[m]);
            D.due("random sent(m, 1)", x.sent(m, 1), firstHour);
            D.due("random sent(m, 2)", x.sent(m, 2), sent[m] == bytes[m] ? lastHour : -1);
            for (int known = 0; known < 50; known += 7) {
                int arrived = sent[m] == bytes[m] ? 1 : 0;
                for (int[] f : failures) {
                    arrived = f[1] <= known && used[m][f[0]] ? 0 : arrived;
                }
                D.due("random arrived", x.arrived(m, known), arrived);
            }
            all += sent[m];
        }
        D.due("random count(9)", x.count(9), all);
    }
}
