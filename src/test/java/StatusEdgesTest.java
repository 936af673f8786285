/** The boundary cases of promises 29 and 30 (Terms I), and of the 512 calls of an object. */
public final class StatusEdgesTest {
    private static final Due D = new Due("StatusEdgesTest");
    private static final int MIN = Integer.MIN_VALUE;
    private static final int MAX = Integer.MAX_VALUE;

    public static void main(String[] args) {
        countsAtFirst();
        countsOfOthers();
        countsAtTheirGreatest();
        greatestNow();
        allBytesSent();
        allBoxesLifted();
        boundBelowNone();
        countsNotOfRefused();
        statusAheadOfAny();
        zeroIfItWasNot();
        everyCallThatCanBeRefused();
        callsThatCanNot();
        lastOfManyCalls();
        D.end();
    }

    private static void countsAtFirst() {
        D.sentence("29: 0 NOW .. 12 BOUND, at first");
        WinterStation x = new WinterStation();
        for (int what = 0; what <= 12; what++) {
            D.due("count(" + what + ")", x.count(what), what == 12 ? -90 : 0);
        }
    }

    private static void countsOfOthers() {
        D.sentence("29: NONE for others");
        WinterStation x = new WinterStation();
        for (int what : new int[] {-1, 13, 14, -1000, MIN, MAX}) {
            D.due("count(" + what + ")", x.count(what), -1);
        }
        D.due("status() is not touched", x.status(), 0);
    }

    private static void countsAtTheirGreatest() {
        D.sentence("29: ENGINES, BOXES, PEOPLE, WORKS, RULES, MESSAGES, FAILURES, bytes of the TAPE, at most");
        WinterStation x = new WinterStation();
        for (int i = 0; i < 5; i++) {
            x.engine(1, 1, 1);
        }
        for (int i = 0; i < 73; i++) {
            x.box(i % 6, 0);
        }
        for (int i = 0; i < 15; i++) {
            x.person(0);
        }
        for (int i = 0; i < 31; i++) {
            x.work(1, 1, 0, 0);
        }
        for (int i = 0; i < 101; i++) {
            x.message(1, 0);
        }
        for (int i = 0; i < 61; i++) {
            x.fail(0, 0);
        }
        Due.rules(x, "rest 1000;cold 1000" + ";rest 1000".repeat(18));
        for (int i = 0; i < 21; i++) {
            x.feed(0, 0, 0, 0, 0);
        }
        int[] due = {0, 4, 72, 0, 14, 30, 20, 100, 60, 0, 400, 1000, -1000};
        for (int what = 0; what <= 12; what++) {
            D.due("count(" + what + ")", x.count(what), due[what]);
        }
    }

    private static void greatestNow() {
        D.sentence("29: 0 NOW, at most 2399");
        WinterStation x = new WinterStation();
        Due.goTo(x, 2399);
        D.due("count(0)", x.count(0), 2399);
        x.go(1);
        D.due("count(0)", x.count(0), 2399);
    }

    private static void allBytesSent() {
        D.sentence("29: 9 bytes sent in all");
        WinterStation x = new WinterStation();
        for (int i = 0; i < 100; i++) {
            x.message(10000, 0);
        }
        x.radio(0, 23, 1000);
        D.due("none", x.count(9), 0);
        x.go(200);
        D.due("200 hours", x.count(9), 200000);
        Due.goTo(x, 999);
        D.due("all but 1000", x.count(9), 999000);
        Due.goTo(x, 1200);
        D.due("all", x.count(9), 1000000);
        D.due("the last of them", x.sent(99, 2), 999);
        D.due("a failure takes none back", x.fail(0, 0), 1);
        D.due("all", x.count(9), 1000000);
    }

    private static void allBoxesLifted() {
        D.sentence("29: 3 LIFTED in all");
        WinterStation x = new WinterStation();
        for (int i = 0; i < 12; i++) {
            x.box(0, i % 3);
        }
        D.due("none at first", x.count(3), 0);
        int[] kinds = {0, 0, 1, 1, 2, 2};
        int[] lifted = {2, 6, 7, 9, 9, 9};
        for (int i = 0; i < 6; i++) {
            D.taken(x, "take(" + kinds[i] + ")", x.take(kinds[i]), 0);
            D.due("lifted behind take " + i, x.count(3), lifted[i]);
            D.due("boxes", x.count(2), 11 - i);
        }
        D.refused(x, "take(9)", x.take(9), -3);
        D.due("lifted", x.count(3), 9);
    }

    private static void boundBelowNone() {
        D.sentence("29: (BOUND may be below it)");
        WinterStation x = new WinterStation();
        for (int bound : new int[] {0, 1, 2, 90, 1000}) {
            Due.rules(x, "cold " + bound);
            D.due("count(12)", x.count(12), -bound);
        }
    }

    private static void countsNotOfRefused() {
        D.sentence("29: of those that were not REFUSED");
        WinterStation x = new WinterStation();
        x.engine(0, 0, 0);
        x.box(6, 0);
        x.take(0);
        x.person(256);
        x.ill(0, 0, 0);
        x.work(0, 0, 0, 0);
        Due.rules(x, "rest 5;no");
        x.message(0, 0);
        x.fail(-1, 0);
        x.go(0);
        for (int what = 0; what <= 12; what++) {
            D.due("count(" + what + ")", x.count(what), what == 12 ? -90 : 0);
        }
    }

    private static void statusAheadOfAny() {
        D.sentence("30: 0 ahead of any");
        WinterStation x = new WinterStation();
        D.due("status()", x.status(), 0);
        x.hour(-1, 0);
        x.planned(0, 0);
        x.land(-1);
        x.end(-1);
        x.count(-1);
        D.due("status() behind calls that can't be refused", x.status(), 0);
    }

    private static void zeroIfItWasNot() {
        D.sentence("30: REFUSED by; 0 if it was not");
        WinterStation x = new WinterStation();
        D.refused(x, "go(0)", x.go(0), -1);
        D.due("status() again", x.status(), -1);
        D.taken(x, "go(1)", x.go(1), 1);
        D.refused(x, "box(6, 0)", x.box(6, 0), -2);
        D.taken(x, "box(0, 0)", x.box(0, 0), 1);
        D.refused(x, "take(1)", x.take(1), -3);
        D.taken(x, "take(0)", x.take(0), 0);
        for (int i = 0; i < 14; i++) {
            D.taken(x, "person(0)", x.person(0), i);
        }
        D.refused(x, "person(0)", x.person(0), -5);
        D.taken(x, "rules()", x.rules(), 0);
        D.refused(x, "no", Due.rules(x, "no"), -6);
        D.taken(x, "rest 0", Due.rules(x, "rest 0"), 1);
        D.refused(x, "take(10) behind a good one", x.take(10), -1);
        D.refused(x, "take(9) behind a refused one", x.take(9), -3);
    }

    private static void everyCallThatCanBeRefused() {
        D.sentence("30: the latest call of those that can be REFUSED");
        for (int call = 0; call < 16; call++) {
            WinterStation x = new WinterStation();
            x.person(0);
            D.refused(x, "call " + call, call(x, call, false), call == 15 ? -6 : -1);
            int answer = call(x, call, true);
            D.taken(x, "call " + call, answer, due(call));
            x.box(6, 0);
            answer = call(x, call, true);
            D.due("call " + call + " again is not refused", answer < 0 ? 1 : 0, 0);
            D.due("status() behind call " + call, x.status(), 0);
        }
    }

    private static int due(int call) {
        int[] due = {0, 0, 0, 0, 0, 0, 1, 0, 1, 1, 0, 0, 0, 1, 1, 1};
        return due[call];
    }

    private static int call(WinterStation x, int call, boolean good) {
        int n = good ? 0 : -1;
        switch (call) {
            case 0: return x.weather(n, 0, 0, false, 0);
            case 1: return x.engine(1, n, 0);
            case 2: return x.mill(n, 0);
            case 3: return x.demand(n, 0);
            case 4: return x.on(n);
            case 5: return x.plan(n + 1);
            case 6: return x.box(0, n);
            case 7:
                x.box(0, 0);
                return x.take(n);
            case 8: return x.person(n);
            case 9: return x.ill(0, n, 0);
            case 10: return x.work(1, 1, n, 0);
            case 11: return x.radio(n, 0, 1);
            case 12: return x.message(1, n);
            case 13: return x.fail(n, 0);
            case 14: return x.go(n + 1);
            default: return Due.rules(x, good ? "rest 5" : "rest");
        }
    }

    private static void callsThatCanNot() {
        D.sentence("30: of those that can be REFUSED (with a code above), and no other");
        for (int start : new int[] {0, -1, -2, -3, -6}) {
            for (int n : new int[] {0, -1, 99999, MIN, MAX}) {
                WinterStation x = new WinterStation();
                startWith(x, start);
                D.due("at first", x.status(), start);
                x.hour(n, n);
                D.due("hour", x.status(), start);
                x.planned(n, n);
                D.due("planned", x.status(), start);
                x.stack(n, n);
                D.due("stack", x.status(), start);
                x.schedule();
                D.due("schedule", x.status(), start);
                x.begins(n, n);
                D.due("begins", x.status(), start);
                for (int i = 0; i < 21; i++) {
                    x.feed(n, n, n, n, n);
                }
                D.due("feed", x.status(), start);
                x.end(n);
                D.due("end", x.status(), start);
                x.fault();
                D.due("fault", x.status(), start);
                x.sent(n, n);
                D.due("sent", x.status(), start);
                x.arrived(n, n);
                D.due("arrived", x.status(), start);
                x.land(n);
                D.due("land", x.status(), start);
                x.count(n);
                D.due("count", x.status(), start);
            }
        }
    }

    private static void startWith(WinterStation x, int code) {
        switch (code) {
            case -1: x.take(10); break;
            case -2: x.box(6, 0); break;
            case -3: x.take(0); break;
            case -6: Due.rules(x, "no"); break;
            default: x.box(0, 0); break;
        }
    }

    private static void lastOfManyCalls() {
        D.sentence("An object is used for at most 512 calls after it has been made");
        WinterStation x = new WinterStation();
        for (int i = 0; i < 30; i++) {
            x.work(24, 4, 255, 3);
        }
        for (int i = 0; i < 14; i++) {
            x.person(255);
        }
        x.weather(0, 299, 0, true, 0);
        for (int i = 46; i <= 510; i++) {
            x.schedule();
        }
        D.due("the 511th call", x.schedule(), 0);
        D.due("the 512th call", x.begins(29, 0), 216);
    }
}
