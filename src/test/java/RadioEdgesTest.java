/** The boundary cases of promises 22 to 28 (Terms VI): radio, message, fail, go, sent, arrived, land. */
public final class RadioEdgesTest {
    private static final Due D = new Due("RadioEdgesTest");
    private static final int MIN = Integer.MIN_VALUE;
    private static final int MAX = Integer.MAX_VALUE;

    public static void main(String[] args) {
        radioHours();
        radioNotBehind();
        radioBytes();
        radioAtFirst();
        radioHoursOfEachDay();
        messageBytes();
        messageRanks();
        hundredMessages();
        failureHours();
        failureKnown();
        sixtyFailures();
        goHours();
        goAboveTheLast();
        goRefusedSendsNothing();
        toldInTheHour();
        noneAndNotAll();
        justFull();
        whatIsLeftOfAnHour();
        manyInAnHour();
        greatestMessage();
        greatestRankFirst();
        lowerNumberFirst();
        sentOfMessages();
        sentWhats();
        knownRange();
        arrivedOfMessages();
        notAllSent();
        knownByThen();
        everyHourOfAMessage();
        failureOfOthersHours();
        failureAheadOfSending();
        lastOfTheFailures();
        lastHourThatGoesBy();
        landFrom();
        landThreeHours();
        landAtTheEnd();
        landWind();
        landCold();
        landLight();
        D.end();
    }

    private static void radioHours() {
        D.sentence("22: from an hour of the day to an hour of the day, 0 .. 23");
        WinterStation x = new WinterStation();
        x.message(10000, 0);
        D.taken(x, "radio(23, 23, 7)", x.radio(23, 23, 7), 0);
        int[][] wrong = {{-1, 5}, {-1, -1}, {0, 24}, {24, 24}, {23, 24}, {24, 47}, {MIN, 0}, {0, MAX}, {MIN, MAX}};
        for (int[] w : wrong) {
            D.refused(x, "radio(" + w[0] + ", " + w[1] + ", 9)", x.radio(w[0], w[1], 9), -1);
        }
        x.go(23);
        D.due("none yet", x.sent(0, 0), 0);
        x.go(1);
        D.due("hour 23", x.sent(0, 0), 7);
        D.taken(x, "radio(0, 0, 5)", x.radio(0, 0, 5), 0);
        x.go(1);
        D.due("hour 24", x.sent(0, 0), 12);
        x.go(23);
        D.due("no hour more of that day", x.sent(0, 0), 12);
    }

    private static void radioNotBehind() {
        D.sentence("VI: (not behind)");
        WinterStation x = new WinterStation();
        D.refused(x, "radio(1, 0, 5)", x.radio(1, 0, 5), -1);
        D.refused(x, "radio(23, 0, 5)", x.radio(23, 0, 5), -1);
        D.refused(x, "radio(MAX, MIN, 5)", x.radio(MAX, MIN, 5), -1);
        D.taken(x, "radio(1, 1, 5)", x.radio(1, 1, 5), 0);
        x.message(100, 0);
        x.go(24);
        D.due("one hour", x.sent(0, 0), 5);
    }

    private static void radioBytes() {
        D.sentence("VI: so many bytes an HOUR (1 .. 1000)");
        WinterStation x = new WinterStation();
        x.message(10000, 0);
        for (int bytes : new int[] {0, -1, 1001, MIN, MAX}) {
            D.refused(x, "radio(0, 23, " + bytes + ")", x.radio(0, 23, bytes), -1);
        }
        D.taken(x, "radio(0, 23, 1)", x.radio(0, 23, 1), 0);
        x.go(1);
        D.due("one byte", x.sent(0, 0), 1);
        D.taken(x, "radio(0, 23, 1000)", x.radio(0, 23, 1000), 0);
        x.go(1);
        D.due("a thousand more", x.sent(0, 0), 1001);
    }

    private static void radioAtFirst() {
        D.sentence("VI: (0, 23 at first), (100 at first)");
        WinterStation x = new WinterStation();
        x.message(10000, 0);
        for (int h = 1; h <= 48; h++) {
            x.go(1);
            D.due("bytes behind hour " + (h - 1), x.sent(0, 0), 100 * h);
        }
    }

    private static void radioHoursOfEachDay() {
        D.sentence("VI: in RADIO hours bytes are sent, both ends among them, each day");
        WinterStation x = new WinterStation();
        x.message(10000, 0);
        x.radio(5, 7, 10);
        int sent = 0;
        for (int h = 0; h < 72; h++) {
            x.go(1);
            sent += h % 24 >= 5 && h % 24 <= 7 ? 10 : 0;
            D.due("bytes behind hour " + h, x.sent(0, 0), sent);
        }
    }

    private static void messageBytes() {
        D.sentence("VI: MESSAGES: bytes (1 .. 10,000)");
        WinterStation x = new WinterStation();
        for (int bytes : new int[] {0, -1, 10001, MIN, MAX}) {
            D.refused(x, "message(" + bytes + ", 0)", x.message(bytes, 0), -1);
            D.due("messages", x.count(7), 0);
        }
        D.taken(x, "message(1, 0)", x.message(1, 0), 0);
        D.taken(x, "message(10000, 0)", x.message(10000, 0), 1);
        x.go(1);
        D.due("one byte is all", x.sent(0, 2), 0);
        D.due("the rest of the hour", x.sent(1, 0), 99);
    }

    private static void messageRanks() {
        D.sentence("VI: RANK 0 .. 3");
        WinterStation x = new WinterStation();
        for (int rank : new int[] {-1, 4, MIN, MAX}) {
            D.refused(x, "message(1, " + rank + ")", x.message(1, rank), -1);
            D.due("messages", x.count(7), 0);
        }
        for (int rank = 0; rank <= 3; rank++) {
            D.taken(x, "message(100, " + rank + ")", x.message(100, rank), rank);
        }
        x.go(4);
        for (int rank = 0; rank <= 3; rank++) {
            D.due("rank " + rank, x.sent(rank, 2), 3 - rank);
        }
    }

    private static void hundredMessages() {
        D.sentence("VI: MESSAGES 0 .. 99 (100 at most)");
        WinterStation x = new WinterStation();
        for (int i = 0; i < 100; i++) {
            D.taken(x, "message " + i, x.message(1, i == 99 ? 3 : 0), i);
        }
        D.refused(x, "one more", x.message(1, 3), -5);
        D.refused(x, "one more that can't be", x.message(0, 3), -1);
        D.refused(x, "one more that can't be", x.message(1, 4), -1);
        D.due("messages", x.count(7), 100);
        x.radio(0, 23, 1);
        x.go(1);
        D.due("the last goes first", x.sent(99, 0), 1);
        D.due("the first waits", x.sent(0, 0), 0);
        x.go(99);
        D.due("the one but last goes last", x.sent(98, 2), 99);
        D.refused(x, "one more, though all are sent", x.message(1, 3), -5);
    }

    private static void failureHours() {
        D.sentence("24: FAILURES: an HOUR, 0 .. 2399");
        WinterStation x = new WinterStation();
        for (int hour : new int[] {-1, 2400, MIN, MAX}) {
            D.refused(x, "fail(" + hour + ", 0)", x.fail(hour, 0), -1);
            D.due("failures", x.count(8), 0);
        }
        D.taken(x, "fail(0, 0)", x.fail(0, 0), 1);
        D.taken(x, "fail(2399, 0)", x.fail(2399, 0), 2);
    }

    private static void failureKnown() {
        D.sentence("VI: the HOUR at which it became known (0 .. 100,000)");
        WinterStation x = new WinterStation();
        for (int known : new int[] {-1, 100001, MIN, MAX}) {
            D.refused(x, "fail(0, " + known + ")", x.fail(0, known), -1);
            D.due("failures", x.count(8), 0);
        }
        D.taken(x, "fail(1, 100000)", x.fail(1, 100000), 1);
        D.taken(x, "fail(0, 0)", x.fail(0, 0), 2);
        x.message(100, 0);
        x.message(100, 0);
        x.go(2);
        D.due("known at 0", x.arrived(0, 0), 0);
        D.due("not known at 99999", x.arrived(1, 99999), 1);
        D.due("known at 100000", x.arrived(1, 100000), 0);
    }

    private static void sixtyFailures() {
        D.sentence("VI: FAILURES, 60 at most");
        WinterStation x = new WinterStation();
        for (int i = 1; i <= 60; i++) {
            D.taken(x, "failure " + i, x.fail(i, 0), i);
            D.due("count(8)", x.count(8), i);
        }
        D.refused(x, "one more", x.fail(0, 0), -5);
        D.refused(x, "one more of the same hour", x.fail(1, 0), -5);
        D.refused(x, "one more that can't be", x.fail(2400, 0), -1);
        D.refused(x, "one more that can't be", x.fail(0, 100001), -1);
        D.due("count(8)", x.count(8), 60);
        x.message(1, 0);
        x.go(1);
        D.due("hour 0 has none", x.arrived(0, 100000), 1);
    }

    private static void goHours() {
        D.sentence("25: HOURS go by (1 .. 200): NOW");
        WinterStation x = new WinterStation();
        for (int hours : new int[] {0, -1, 201, 2399, MIN, MAX}) {
            D.refused(x, "go(" + hours + ")", x.go(hours), -1);
            D.due("now", x.count(0), 0);
        }
        D.taken(x, "go(1)", x.go(1), 1);
        D.taken(x, "go(200)", x.go(200), 201);
        D.due("now", x.count(0), 201);
    }

    private static void goAboveTheLast() {
        D.sentence("25: -1, also if it would be above 2399");
        WinterStation x = new WinterStation();
        Due.goTo(x, 2200);
        D.refused(x, "go(200) at 2200", x.go(200), -1);
        D.due("now", x.count(0), 2200);
        D.taken(x, "go(199) at 2200", x.go(199), 2399);
        D.refused(x, "go(1) at 2399", x.go(1), -1);
        D.refused(x, "go(200) at 2399", x.go(200), -1);
        D.refused(x, "go(MAX) at 2399", x.go(MAX), -1);
        D.refused(x, "go(0) at 2399", x.go(0), -1);
        D.refused(x, "go(-1) at 2399", x.go(-1), -1);
        D.due("now", x.count(0), 2399);
    }

    private static void goRefusedSendsNothing() {
        D.sentence("25: -1, and no HOUR goes by");
        WinterStation x = new WinterStation();
        Due.goTo(x, 2398);
        x.message(500, 0);
        for (int hours : new int[] {0, -1, 2, 200, 201, MIN, MAX}) {
            D.refused(x, "go(" + hours + ")", x.go(hours), -1);
            D.due("bytes sent", x.sent(0, 0), 0);
            D.due("bytes sent in all", x.count(9), 0);
        }
        D.taken(x, "go(1)", x.go(1), 2399);
        D.due("bytes sent", x.sent(0, 0), 100);
    }

    private static void toldInTheHour() {
        D.sentence("VI: there from the HOUR in which they were told");
        WinterStation x = new WinterStation();
        x.go(3);
        x.message(50, 0);
        D.due("not yet", x.sent(0, 0), 0);
        x.go(1);
        D.due("in hour 3", x.sent(0, 1), 3);
        x.radio(5, 5, 10);
        x.message(10, 0);
        x.go(1);
        D.due("hour 4 has gone by", x.sent(1, 0), 0);
        x.go(1);
        D.due("hour 5 has gone by", x.sent(1, 0), 10);
        x.message(10, 0);
        x.go(23);
        D.due("too late for hour 5", x.sent(2, 0), 0);
        x.go(1);
        D.due("in hour 29", x.sent(2, 2), 29);
    }

    private static void noneAndNotAll() {
        D.sentence("26: (NONE if none, not all)");
        WinterStation x = new WinterStation();
        x.go(7);
        x.message(101, 0);
        D.due("no bytes", x.sent(0, 0), 0);
        D.due("no first", x.sent(0, 1), -1);
        D.due("no last", x.sent(0, 2), -1);
        x.go(1);
        D.due("100 bytes", x.sent(0, 0), 100);
        D.due("first", x.sent(0, 1), 7);
        D.due("not all", x.sent(0, 2), -1);
        x.go(1);
        D.due("all bytes", x.sent(0, 0), 101);
        D.due("first", x.sent(0, 1), 7);
        D.due("last", x.sent(0, 2), 8);
        x.go(1);
        D.due("all bytes stay", x.sent(0, 0), 101);
        D.due("first stays", x.sent(0, 1), 7);
        D.due("last stays", x.sent(0, 2), 8);
    }

    private static void justFull() {
        D.sentence("VI: as far as bytes of that HOUR let");
        WinterStation x = new WinterStation();
        x.message(100, 0);
        x.message(100, 0);
        x.go(1);
        D.due("all of the first", x.sent(0, 0), 100);
        D.due("its first hour", x.sent(0, 1), 0);
        D.due("its last hour", x.sent(0, 2), 0);
        D.due("none of the second", x.sent(1, 0), 0);
        D.due("no first hour", x.sent(1, 1), -1);
        x.go(1);
        D.due("all of the second", x.sent(1, 2), 1);
        D.due("count(9)", x.count(9), 200);
    }

    private static void whatIsLeftOfAnHour() {
        D.sentence("VI: (what is left of an HOUR goes to the next MESSAGE)");
        WinterStation x = new WinterStation();
        x.message(99, 3);
        x.message(2, 3);
        x.message(100, 2);
        x.go(1);
        D.due("99", x.sent(0, 0), 99);
        D.due("1 of 2", x.sent(1, 0), 1);
        D.due("its first", x.sent(1, 1), 0);
        D.due("not all", x.sent(1, 2), -1);
        D.due("none of the third", x.sent(2, 1), -1);
        x.go(1);
        D.due("its last", x.sent(1, 2), 1);
        D.due("99 of the third", x.sent(2, 0), 99);
        x.go(1);
        D.due("all of the third", x.sent(2, 2), 2);
        D.due("count(9)", x.count(9), 201);
        x.go(200);
        D.due("nothing more", x.count(9), 201);
    }

    private static void manyInAnHour() {
        D.sentence("VI: in one HOUR a hundred MESSAGES");
        WinterStation x = new WinterStation();
        for (int i = 0; i < 100; i++) {
            x.message(1, i % 4);
        }
        x.radio(0, 23, 99);
        x.go(1);
        D.due("count(9)", x.count(9), 99);
        for (int i = 0; i < 100; i++) {
            D.due("bytes of " + i, x.sent(i, 0), i == 96 ? 0 : 1);
            D.due("last of " + i, x.sent(i, 2), i == 96 ? -1 : 0);
        }
        x.fail(0, 0);
        x.go(1);
        for (int i = 0; i < 100; i++) {
            D.due("arrived(" + i + ")", x.arrived(i, 0), i == 96 ? 1 : 0);
        }
    }

    private static void greatestMessage() {
        D.sentence("VI: bytes 10,000, by 1000 an HOUR and by 1");
        WinterStation x = new WinterStation();
        x.message(10000, 0);
        x.radio(0, 23, 1000);
        x.go(9);
        D.due("nine hours", x.sent(0, 0), 9000);
        D.due("not all", x.sent(0, 2), -1);
        x.go(1);
        D.due("ten hours", x.sent(0, 0), 10000);
        D.due("its last", x.sent(0, 2), 9);
        WinterStation y = new WinterStation();
        y.message(10000, 0);
        y.radio(0, 23, 1);
        Due.goTo(y, 2399);
        D.due("a byte an hour", y.sent(0, 0), 2399);
        D.due("not all", y.sent(0, 2), -1);
        D.due("not arrived", y.arrived(0, 100000), 0);
    }

    private static void greatestRankFirst() {
        D.sentence("VI: of the MESSAGE of the greatest RANK first");
        WinterStation x = new WinterStation();
        x.message(300, 0);
        x.go(1);
        x.message(150, 1);
        x.go(1);
        x.message(100, 3);
        x.message(100, 2);
        x.go(1);
        D.due("rank 3", x.sent(2, 2), 2);
        x.go(1);
        D.due("rank 2", x.sent(3, 2), 3);
        D.due("rank 1 waits", x.sent(1, 0), 100);
        D.due("rank 0 waits", x.sent(0, 0), 100);
        x.go(1);
        D.due("rank 1 goes on", x.sent(1, 2), 4);
        D.due("rank 0 goes on", x.sent(0, 0), 150);
    }

    private static void lowerNumberFirst() {
        D.sentence("VI: then of the lower number");
        WinterStation x = new WinterStation();
        x.message(150, 1);
        x.message(100, 1);
        x.message(10, 1);
        x.go(1);
        D.due("the first", x.sent(0, 0), 100);
        D.due("the second waits", x.sent(1, 0), 0);
        D.due("the third waits, though it is short", x.sent(2, 0), 0);
        x.go(1);
        D.due("the first has all", x.sent(0, 2), 1);
        D.due("the second", x.sent(1, 0), 50);
        D.due("the third waits", x.sent(2, 0), 0);
        x.go(1);
        D.due("the third", x.sent(2, 2), 2);
    }

    private static void sentOfMessages() {
        D.sentence("26: NONE without");
        WinterStation x = new WinterStation();
        for (int what = 0; what <= 2; what++) {
            D.due("sent(0, " + what + ")", x.sent(0, what), -1);
        }
        for (int i = 0; i < 100; i++) {
            x.message(1, 0);
        }
        x.go(1);
        for (int message : new int[] {-1, 100, 101, MIN, MAX}) {
            for (int what = 0; what <= 2; what++) {
                D.due("sent(" + message + ", " + what + ")", x.sent(message, what), -1);
            }
        }
        D.due("sent(99, 0)", x.sent(99, 0), 1);
        D.due("sent(99, 1)", x.sent(99, 1), 0);
        D.due("status() is not touched", x.status(), 0);
    }

    private static void sentWhats() {
        D.sentence("26: what 0, 1, 2, and no other");
        WinterStation x = new WinterStation();
        x.message(1, 0);
        x.go(1);
        for (int what : new int[] {-1, 3, MIN, MAX}) {
            D.due("sent(0, " + what + ")", x.sent(0, what), -1);
        }
    }

    private static void knownRange() {
        D.sentence("27: as known at an HOUR (0 .. 100,000): 1, 0; NONE");
        WinterStation x = new WinterStation();
        x.message(1, 0);
        for (int known : new int[] {-1, 100001, MIN, MAX}) {
            D.due("not sent: arrived(0, " + known + ")", x.arrived(0, known), -1);
        }
        x.go(1);
        for (int known : new int[] {-1, 100001, MIN, MAX}) {
            D.due("arrived(0, " + known + ")", x.arrived(0, known), -1);
        }
        D.due("arrived(0, 0)", x.arrived(0, 0), 1);
        D.due("arrived(0, 100000)", x.arrived(0, 100000), 1);
        D.due("status() is not touched", x.status(), 0);
    }

    private static void arrivedOfMessages() {
        D.sentence("27: NONE, of no such MESSAGE");
        WinterStation x = new WinterStation();
        D.due("arrived(0, 0)", x.arrived(0, 0), -1);
        for (int i = 0; i < 100; i++) {
            x.message(1, 0);
        }
        x.go(1);
        for (int message : new int[] {-1, 100, MIN, MAX}) {
            D.due("arrived(" + message + ", 0)", x.arrived(message, 0), -1);
        }
        D.due("arrived(0, 0)", x.arrived(0, 0), 1);
        D.due("arrived(99, 0)", x.arrived(99, 0), 1);
    }

    private static void notAllSent() {
        D.sentence("VI: ARRIVED, if all is sent");
        WinterStation x = new WinterStation();
        x.message(101, 0);
        D.due("none is sent", x.arrived(0, 100000), 0);
        x.go(1);
        D.due("all but one are sent", x.arrived(0, 100000), 0);
        x.go(1);
        D.due("all are sent", x.arrived(0, 0), 1);
    }

    private static void knownByThen() {
        D.sentence("VI: a FAILURE known by then");
        WinterStation x = new WinterStation();
        x.message(1, 0);
        x.go(1);
        x.fail(0, 500);
        D.due("an hour ahead", x.arrived(0, 499), 1);
        D.due("at that hour", x.arrived(0, 500), 0);
        D.due("behind it", x.arrived(0, 501), 0);
        x.fail(0, 600);
        D.due("a later one changes nothing ahead", x.arrived(0, 499), 1);
        x.fail(0, 300);
        D.due("an earlier one does", x.arrived(0, 300), 0);
        D.due("but not ahead of it", x.arrived(0, 299), 1);
    }

    private static void everyHourOfAMessage() {
        D.sentence("VI: none of its bytes was sent in an HOUR with a FAILURE");
        for (int failed = 0; failed <= 6; failed++) {
            WinterStation x = new WinterStation();
            x.go(1);
            x.message(350, 1);
            x.go(1);
            x.message(100, 2);
            x.go(4);
            D.due("its first", x.sent(0, 1), 1);
            D.due("its last", x.sent(0, 2), 5);
            x.fail(failed, 0);
            boolean isIts = failed == 1 || failed >= 3 && failed <= 5;
            D.due("a failure in " + failed, x.arrived(0, 0), isIts ? 0 : 1);
            D.due("the other in between", x.arrived(1, 0), failed == 2 ? 0 : 1);
        }
    }

    private static void failureOfOthersHours() {
        D.sentence("VI: a FAILURE of an HOUR that two MESSAGES have");
        WinterStation x = new WinterStation();
        x.message(50, 0);
        x.message(100, 0);
        x.message(50, 0);
        x.go(2);
        D.due("all is sent", x.count(9), 200);
        x.fail(0, 10);
        D.due("the first", x.arrived(0, 10), 0);
        D.due("the second", x.arrived(1, 10), 0);
        D.due("the third", x.arrived(2, 10), 1);
        x.fail(1, 5);
        D.due("the first", x.arrived(0, 9), 1);
        D.due("the second", x.arrived(1, 9), 0);
        D.due("the third", x.arrived(2, 5), 0);
        D.due("the third, not yet known", x.arrived(2, 4), 1);
    }

    private static void failureAheadOfSending() {
        D.sentence("24: A FAILURE of an HOUR that has not gone by");
        WinterStation x = new WinterStation();
        D.taken(x, "fail(0, 3)", x.fail(0, 3), 1);
        D.taken(x, "fail(2, 3)", x.fail(2, 3), 2);
        x.message(100, 0);
        x.message(200, 0);
        D.due("nothing is sent", x.arrived(0, 3), 0);
        x.go(3);
        D.due("bytes are sent all the same", x.count(9), 300);
        D.due("hour 0 fails", x.arrived(0, 3), 0);
        D.due("not known", x.arrived(0, 2), 1);
        D.due("hour 2 fails", x.arrived(1, 3), 0);
        D.due("not known", x.arrived(1, 2), 1);
    }

    private static void lastOfTheFailures() {
        D.sentence("VI: FAILURES, the sixtieth");
        WinterStation x = new WinterStation();
        x.message(1, 0);
        x.go(1);
        for (int i = 0; i < 59; i++) {
            x.fail(1, 0);
        }
        D.due("59 of another hour", x.arrived(0, 100000), 1);
        D.taken(x, "the sixtieth", x.fail(0, 7), 60);
        D.refused(x, "one more", x.fail(0, 0), -5);
        D.due("not yet known", x.arrived(0, 6), 1);
        D.due("known", x.arrived(0, 7), 0);
    }

    private static void lastHourThatGoesBy() {
        D.sentence("VI: HOUR 2398, the last that goes by");
        WinterStation x = new WinterStation();
        Due.goTo(x, 2397);
        x.message(150, 0);
        x.go(2);
        D.due("now", x.count(0), 2399);
        D.due("its first", x.sent(0, 1), 2397);
        D.due("its last", x.sent(0, 2), 2398);
        x.message(1, 3);
        x.fail(2399, 0);
        D.due("no failure of its hours", x.arrived(0, 0), 1);
        D.due("hour 2399 does not go by", x.sent(1, 0), 0);
        D.due("it has not arrived", x.arrived(1, 0), 0);
        x.fail(2398, 0);
        D.due("a failure in 2398", x.arrived(0, 0), 0);
    }

    private static void landFrom() {
        D.sentence("28: from one on (0 .. 2399)");
        WinterStation x = new WinterStation();
        x.weather(0, 3, 0, true, 0);
        D.due("land(0)", x.land(0), 0);
        D.due("land(1)", x.land(1), 1);
        D.due("land(2)", x.land(2), -1);
        D.due("land(2399)", x.land(2399), -1);
        for (int from : new int[] {-1, 2400, MIN, MAX}) {
            D.due("land(" + from + ")", x.land(from), -1);
        }
        x.go(200);
        D.due("land(0), whatever is now", x.land(0), 0);
        D.due("status() is not touched", x.status(), 0);
    }

    private static void landThreeHours() {
        D.sentence("VI: in h, h + 1, h + 2");
        WinterStation x = new WinterStation();
        x.weather(10, 11, 0, true, 0);
        D.due("two hours", x.land(0), -1);
        x.weather(13, 14, 0, true, 0);
        D.due("two and two", x.land(0), -1);
        x.weather(16, 18, 0, true, 0);
        D.due("three", x.land(0), 16);
        x.weather(15, 15, 0, true, 0);
        D.due("six", x.land(0), 13);
        D.due("from the fourth of them", x.land(16), 16);
        D.due("from the fifth of them", x.land(17), -1);
    }

    private static void landAtTheEnd() {
        D.sentence("VI: (all ahead of 2400)");
        WinterStation x = new WinterStation();
        x.weather(2398, 2399, 0, true, 0);
        D.due("two hours are left", x.land(0), -1);
        D.due("land(2398)", x.land(2398), -1);
        x.weather(2397, 2397, 0, true, 0);
        D.due("land(0)", x.land(0), 2397);
        D.due("land(2397)", x.land(2397), 2397);
        D.due("land(2398)", x.land(2398), -1);
        D.due("land(2399)", x.land(2399), -1);
        x.weather(0, 1, 0, true, 0);
        D.due("the first hours do not follow", x.land(2398), -1);
    }

    private static void landWind() {
        D.sentence("VI: WIND is at most 15");
        for (int h = 50; h <= 52; h++) {
            WinterStation x = new WinterStation();
            x.weather(50, 52, 15, true, 0);
            D.due("wind 15", x.land(0), 50);
            x.weather(h, h, 16, true, 0);
            D.due("wind 16 in " + h, x.land(0), -1);
            x.weather(h, h, 60, true, 0);
            D.due("wind 60 in " + h, x.land(0), -1);
        }
    }

    private static void landCold() {
        D.sentence("VI: COLD at least -50");
        for (int h = 50; h <= 52; h++) {
            WinterStation x = new WinterStation();
            x.weather(50, 52, 0, true, -50);
            D.due("cold -50", x.land(0), 50);
            x.weather(h, h, 0, true, -51);
            D.due("cold -51 in " + h, x.land(0), -1);
            x.weather(h, h, 0, true, -90);
            D.due("cold -90 in " + h, x.land(0), -1);
            x.weather(h, h, 0, true, 20);
            D.due("cold 20 in " + h, x.land(0), 50);
        }
    }

    private static void landLight() {
        D.sentence("VI: LIGHT is there");
        for (int h = 50; h <= 52; h++) {
            WinterStation x = new WinterStation();
            x.weather(50, 52, 0, true, 0);
            x.weather(h, h, 0, false, 0);
            D.due("no light in " + h, x.land(0), -1);
        }
    }
}
