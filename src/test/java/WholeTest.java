import java.util.Random;

/** All promises at once: runs of any calls on one object, each answer held against Plain's. */
public final class WholeTest {
    private static final Due D = new Due("WholeTest");
    private static final int MOST_CALLS = 512;
    private static final int MOST_OF_ONE = 30;
    private static final String[] BAD = {";", "", "if", "rest", "1001", "-", "or", "wind", "Wind", "\t",
        "\u00ff", "101"};

    private final WinterStation x = new WinterStation();
    private final Plain plain = new Plain();
    private final int run;
    private final Random random;
    // Of so many numbers one is out of its range; a run of few wrong ones gets further.
    private final int wrongOf;
    private int calls;

    private WholeTest(int run) {
        this.run = run;
        random = new Random(run);
        wrongOf = run % 4 == 0 ? 12 : 150;
    }

    public static void main(String[] args) {
        int runs = args.length > 0 ? Integer.parseInt(args[0]) : 150;
        for (int run = 0; run < runs; run++) {
            new WholeTest(run).ask();
        }
        D.end();
    }

    // Some runs are of the last hours; half of the calls of a run are of one part of the document,
    // as its limits need many.
    private void ask() {
        for (int i = 0; run % 5 == 3 && i < 11; i++) {
            due("go", x.go(200), plain.go(200));
        }
        int part = run % 6;
        while (calls + MOST_OF_ONE <= MOST_CALLS) {
            askOne(random.nextBoolean() ? part : random.nextInt(6));
        }
    }

    private void due(String call, int got, int want) {
        calls++;
        D.due("run " + run + ", call " + calls + ": " + call, got, want);
    }

    private int any(int low, int high) {
        if (random.nextInt(wrongOf) == 0) {
            int[] odd = {low - 1, high + 1, -1, Integer.MIN_VALUE, Integer.MAX_VALUE, random.nextInt()};
            return odd[random.nextInt(odd.length)];
        }
        switch (random.nextInt(8)) {
            case 0: return low;
            case 1: return high;
            case 2: return low + random.nextInt(Math.min(high - low, 3) + 1);
            default: return low + random.nextInt(high - low + 1);
        }
    }

    // An hour that is mostly near to now, where plans and schedules look.
    private int nearHour() {
        int now = plain.count(0);
        return random.nextInt(4) == 0 ? any(0, 2399) : any(now, Math.min(2399, now + 60));
    }

    // Few winds, so that mill and weather meet.
    private int someWind() {
        return random.nextInt(5) == 0 ? any(0, 60) : any(13, 16);
    }

    private void askOne(int part) {
        switch (part) {
            case 0: power(random.nextInt(7)); break;
            case 1: store(random.nextInt(5)); break;
            case 2: crew(random.nextInt(9)); break;
            case 3: radio(random.nextInt(8)); break;
            case 4: book(random.nextInt(5)); break;
            default: sky(random.nextInt(8)); break;
        }
        if (random.nextInt(3) == 0) {
            sky(0);
        }
        if (random.nextInt(4) == 0) {
            due("status()", x.status(), plain.status());
        }
    }

    private void sky(int call) {
        int a = nearHour();
        if (call < 3) {
            int most = random.nextInt(40) == 0 ? 400 : 40;
            int b = random.nextInt(10) == 0 ? nearHour() : Math.min(a, 2300) + random.nextInt(most);
            int w = someWind();
            boolean l = random.nextInt(3) > 0;
            int c = any(random.nextBoolean() ? -90 : -51, 20);
            due("weather", x.weather(a, b, w, l, c), plain.weather(a, b, w, l, c));
        } else if (call == 3) {
            due("land", x.land(a), plain.land(a));
        } else if (call < 7) {
            int what = any(0, 5);
            due("hour " + what, x.hour(a, what), plain.hour(a, what));
        } else {
            int what = any(0, 12);
            due("count " + what, x.count(what), plain.count(what));
        }
    }

    private void power(int call) {
        int a = any(1, 1000);
        int b = any(0, random.nextBoolean() ? 1000 : 5);
        int c = any(0, random.nextBoolean() ? 1000 : 5);
        if (call == 0) {
            due("engine", x.engine(a, b, c), plain.engine(a, b, c));
        } else if (call == 1) {
            int w = someWind();
            due("mill", x.mill(w, c), plain.mill(w, c));
        } else if (call < 4) {
            int h = any(0, 23);
            int amount = any(0, random.nextBoolean() ? 10000 : 2500);
            due("demand", x.demand(h, amount), plain.demand(h, amount));
        } else if (call == 4) {
            int bits = any(0, 15);
            due("on", x.on(bits), plain.on(bits));
        } else {
            int n = any(1, 100);
            due("plan", x.plan(n), plain.plan(n));
            int size = plain.planned(-1, 0);
            for (int i = 0; i < 12; i++) {
                int at = i < 2 ? -1 : any(0, Math.max(1, size));
                due("planned " + at, x.planned(at, i % 2), plain.planned(at, i % 2));
            }
        }
    }

    private void store(int call) {
        int s = any(0, random.nextBoolean() ? 5 : 1);
        int kind = any(0, random.nextBoolean() ? 9 : 3);
        if (call < 2) {
            due("box", x.box(s, kind), plain.box(s, kind));
        } else if (call == 2) {
            due("take", x.take(kind), plain.take(kind));
        } else {
            int i = any(-1, 11);
            due("stack", x.stack(s, i), plain.stack(s, i));
        }
    }

    private void crew(int call) {
        int skills = random.nextInt(3) > 0 ? any(0, 255) : 0;
        if (call < 2) {
            int has = skills | random.nextInt(256) | (random.nextBoolean() ? 15 : 0);
            due("person", x.person(has), plain.person(has));
        } else if (call == 2) {
            int p = any(0, 13);
            int from = nearHour();
            int to = random.nextInt(10) == 0 ? nearHour() : from + random.nextInt(30);
            due("ill", x.ill(p, from, to), plain.ill(p, from, to));
        } else if (call < 6) {
            int hours = any(1, random.nextBoolean() ? 24 : 4);
            int needed = any(1, random.nextBoolean() ? 4 : 1);
            int sort = any(0, 3);
            int needs = random.nextBoolean() ? skills & 15 : skills;
            due("work", x.work(hours, needed, needs, sort), plain.work(hours, needed, needs, sort));
        } else {
            if (call == 6) {
                due("schedule", x.schedule(), plain.schedule());
            }
            for (int i = 0; i < 10; i++) {
                int w = any(0, Math.max(1, plain.count(5)));
                int what = i % 5 == 4 ? any(0, 1) : i % 2;
                due("begins " + w, x.begins(w, what), plain.begins(w, what));
            }
        }
    }

    private void radio(int call) {
        int m = any(0, Math.max(1, plain.count(7)));
        if (call == 0) {
            int first = any(0, 23);
            int behind = Math.min(23, Math.max(0, first) + random.nextInt(24));
            int last = random.nextInt(10) == 0 ? any(0, 23) : behind;
            int bytes = any(1, 1000);
            due("radio", x.radio(first, last, bytes), plain.radio(first, last, bytes));
        } else if (call < 3) {
            int bytes = any(1, random.nextBoolean() ? 10000 : 300);
            int rank = any(0, 3);
            due("message", x.message(bytes, rank), plain.message(bytes, rank));
        } else if (call == 3) {
            int h = any(0, random.nextInt(4) == 0 ? 2399 : plain.count(0));
            int known = any(0, random.nextBoolean() ? 100000 : 100);
            due("fail", x.fail(h, known), plain.fail(h, known));
        } else if (call == 4) {
            int hours = any(1, random.nextInt(6) == 0 ? 200 : 9);
            due("go", x.go(hours), plain.go(hours));
        } else if (call == 5) {
            for (int what = 0; what < 3; what++) {
                due("sent " + what, x.sent(m, what), plain.sent(m, what));
            }
            int what = any(0, 2);
            due("sent " + what, x.sent(m, what), plain.sent(m, what));
        } else {
            int known = any(0, random.nextBoolean() ? 100000 : 100);
            due("arrived", x.arrived(m, known), plain.arrived(m, known));
        }
    }

    private void book(int call) {
        if (call < 2) {
            feedText(text());
        } else if (call == 2) {
            int n = any(0, 400);
            due("end", x.end(n), plain.end(n));
        } else if (call == 3) {
            int n = random.nextInt();
            due("feed", x.feed(n, ~n, n * 31, 0x20202020, n), plain.feed(n, ~n, n * 31, 0x20202020, n));
        }
        if (call < 2 || random.nextInt(9) == 0) {
            due("rules", x.rules(), plain.rules());
            due("status()", x.status(), plain.status());
        }
        due("fault", x.fault(), plain.fault());
    }

    // What the tape has already stays ahead of the text, now and then.
    private void feedText(String text) {
        if (random.nextInt(4) > 0) {
            due("end", x.end(0), plain.end(0));
        }
        int had = plain.count(10);
        StringBuilder padded = new StringBuilder(text);
        while (padded.length() % 20 != 0) {
            padded.append(' ');
        }
        for (int at = 0; at < padded.length(); at += 20) {
            int[] n = new int[5];
            for (int i = 0; i < 20; i++) {
                n[i / 4] = n[i / 4] << 8 | padded.charAt(at + i);
            }
            due("feed", x.feed(n[0], n[1], n[2], n[3], n[4]), plain.feed(n));
        }
        int less = random.nextInt(6) == 0 ? random.nextInt(text.length() + 1) : 0;
        int length = had + text.length() - less;
        due("end", x.end(length), plain.end(length));
    }

    private String text() {
        StringBuilder text = new StringBuilder();
        int rules = random.nextInt(6) == 0 ? 21 : 1 + random.nextInt(6);
        for (int r = 0; r < rules; r++) {
            text.append(r == 0 ? "" : random.nextInt(30) == 0 ? ";;" : ";");
            int sort = rules > 6 ? 0 : random.nextInt(4);
            if (sort < 2) {
                text.append(random.nextBoolean() ? "rest " : "cold ");
                text.append(random.nextInt(random.nextBoolean() ? 12 : 99));
            } else {
                text.append(condition());
            }
            if (random.nextInt(25) == 0) {
                text.append(BAD[random.nextInt(BAD.length)]);
            }
        }
        return text.length() > 400 ? text.substring(0, 400) : text.toString();
    }

    private String condition() {
        StringBuilder text = new StringBuilder("if");
        int tests = 1 + random.nextInt(4);
        for (int t = 0; t < tests; t++) {
            text.append(t == 0 ? " " : random.nextBoolean() ? " and " : "or ");
            int subject = random.nextInt(3);
            text.append(new String[] {"wind", "cold", "hour"}[subject]);
            text.append(random.nextBoolean() ? "<" : " > ");
            text.append(subject == 1 && random.nextBoolean() ? "- " : "");
            text.append(random.nextInt(new int[] {61, 60, 25}[subject]));
        }
        text.append(random.nextBoolean() ? "ration " : " ration 0").append(random.nextInt(101));
        return text.toString();
    }
}
