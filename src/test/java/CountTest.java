/** Promises 29 and 30: count, status. */
public final class CountTest {
    private static final Due D = new Due("CountTest");

    public static void main(String[] args) {
        counts();
        statusOfRefusals();
        untouched();
        D.end();
    }

    private static void counts() {
        WinterStation x = new WinterStation();
        x.engine(1, 1, 1);
        x.engine(1, 1, 1);
        for (int i = 0; i < 5; i++) {
            x.box(0, i);
        }
        x.take(1);
        for (int i = 0; i < 6; i++) {
            x.person(0);
        }
        for (int i = 0; i < 7; i++) {
            x.work(1, 1, 0, 0);
        }
        Due.rules(x, "rest 12;cold 33;if wind>1ration 1");
        for (int i = 0; i < 8; i++) {
            x.message(2, 0);
        }
        for (int i = 0; i < 9; i++) {
            x.fail(0, 0);
        }
        x.go(11);
        x.feed(0, 0, 0, 0, 0);
        int[] due = {11, 2, 4, 3, 6, 7, 3, 8, 9, 16, 20, 12, -33};
        for (int what = 0; what <= 12; what++) {
            D.due("count(" + what + ")", x.count(what), due[what]);
        }
        for (int what : new int[] {-1, 13, Integer.MIN_VALUE, Integer.MAX_VALUE}) {
            D.due("count(" + what + ")", x.count(what), -1);
        }
    }

    private static void statusOfRefusals() {
        WinterStation x = new WinterStation();
        D.due("at first", x.status(), 0);
        x.take(0);
        D.due("-3", x.status(), -3);
        D.due("twice", x.status(), -3);
        x.box(0, 0);
        D.due("0 again", x.status(), 0);
        x.box(9, 0);
        D.due("-2", x.status(), -2);
        Due.rules(x, "no");
        D.due("-6", x.status(), -6);
        x.rules();
        D.due("0 again", x.status(), 0);
        x.go(0);
        D.due("-1", x.status(), -1);
        x.go(1);
        D.due("0 again", x.status(), 0);
        for (int i = 0; i < 5; i++) {
            x.engine(1, 0, 0);
        }
        D.due("-5", x.status(), -5);
        x.plan(1);
        D.due("0 again", x.status(), 0);
        x.plan(101);
        D.due("-1", x.status(), -1);
        x.on(0);
        D.due("0 again", x.status(), 0);
        x.on(16);
        D.due("-1", x.status(), -1);
        x.mill(0, 0);
        D.due("0 again", x.status(), 0);
        x.ill(0, 0, 0);
        D.due("-2", x.status(), -2);
        x.person(1);
        D.due("0 again", x.status(), 0);
    }

    /** Calls that no code refuses leave the status as it is, whatever they answer. */
    private static void untouched() {
        WinterStation x = new WinterStation();
        x.box(9, 0);
        for (int wrong : new int[] {0, -5, 99999}) {
            x.hour(wrong, wrong);
            x.planned(wrong, wrong);
            x.stack(wrong, wrong);
            x.schedule();
            x.begins(wrong, wrong);
            x.feed(wrong, 0, 0, 0, 0);
            x.end(wrong);
            x.fault();
            x.sent(wrong, wrong);
            x.arrived(wrong, wrong);
            x.land(wrong);
            x.count(wrong);
            D.due("untouched by " + wrong, x.status(), -2);
        }
        x.message(1, 1);
        x.hour(-1, 0);
        x.land(-1);
        x.end(-1);
        x.arrived(9, 0);
        D.due("untouched when it is 0", x.status(), 0);
    }
}
