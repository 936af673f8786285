import java.util.ArrayList;
import java.util.List;
import java.util.function.BiConsumer;
import java.util.function.ToIntFunction;

/**
 * The codes by which a call is REFUSED, in their order, on a station in which nothing has room; and
 * that a refused call changes nothing: whatever can be asked, or done next, answers as without it.
 */
public final class RefusalTest {
    private static final Due D = new Due("RefusalTest");
    private static final int MIN = Integer.MIN_VALUE;
    private static final int MAX = Integer.MAX_VALUE;
    private static final List<String> NAMES = new ArrayList<>();
    private static final List<Integer> CODES = new ArrayList<>();
    private static final List<ToIntFunction<WinterStation>> CALLS = new ArrayList<>();
    private static final List<BiConsumer<WinterStation, StringBuilder>> PROBES = new ArrayList<>();

    public static void main(String[] args) {
        powerCalls();
        storeCalls();
        crewCalls();
        radioCalls();
        askedProbes();
        doneProbes();
        for (int i = 0; i < CALLS.size(); i++) {
            WinterStation x = full();
            D.refused(x, NAMES.get(i), CALLS.get(i).applyAsInt(x), CODES.get(i));
        }
        changesNothing();
        D.end();
    }

    private static void refused(String name, int code, ToIntFunction<WinterStation> call) {
        NAMES.add(name);
        CODES.add(code);
        CALLS.add(call);
    }

    /** A station at hour 2350 in which no engine, person, spell, work, message or failure has room. */
    private static WinterStation full() {
        WinterStation x = new WinterStation();
        for (int i = 0; i < 4; i++) {
            x.engine(10 + i, 5 - i, 3 + i);
        }
        x.on(5);
        for (int i = 0; i < 12; i++) {
            x.box(0, i % 3);
            x.box(5, i % 4);
        }
        for (int i = 0; i < 14; i++) {
            x.person(i * 19 % 256);
        }
        for (int i = 0; i < 30; i++) {
            x.ill(i % 14, 2345 + i, 2350 + i);
            x.work(1 + i % 3, 1 + i % 2, i % 4, i % 4);
        }
        for (int i = 0; i < 100; i++) {
            x.message(1 + i * 97, i % 4);
        }
        for (int i = 0; i < 60; i++) {
            x.fail(i * 39, i);
        }
        x.radio(3, 20, 120);
        x.weather(2340, 2390, 9, true, -30);
        x.weather(2352, 2356, 20, false, -50);
        x.mill(9, 11);
        x.mill(0, 7);
        x.demand(0, 40);
        x.demand(3, 25);
        x.demand(23, 9999);
        Due.rules(x, "rest 2;cold 45;if wind>10 ration 30;if hour<1 ration 5");
        Due.goTo(x, 2350);
        x.plan(30);
        x.schedule();
        Due.tape(x, "rest 9;cold 8");
        return x;
    }

    private static void powerCalls() {
        refused("weather(-1, 2399, ..)", -1, x -> x.weather(-1, 2399, 1, true, 1));
        refused("weather(2350, 2400, ..)", -1, x -> x.weather(2350, 2400, 1, true, 1));
        refused("weather(2351, 2350, ..)", -1, x -> x.weather(2351, 2350, 1, true, 1));
        refused("weather(2099, 2399, ..)", -1, x -> x.weather(2099, 2399, 1, true, 1));
        refused("weather(MIN, MAX, ..)", -1, x -> x.weather(MIN, MAX, 1, true, 1));
        refused("weather(.., 61, ..)", -1, x -> x.weather(2350, 2360, 61, true, 1));
        refused("weather(.., -1, ..)", -1, x -> x.weather(2350, 2360, -1, true, 1));
        refused("weather(.., 21)", -1, x -> x.weather(2350, 2360, 1, true, 21));
        refused("weather(.., -91)", -1, x -> x.weather(2350, 2360, 1, true, -91));
        refused("engine(5, 5, 5)", -5, x -> x.engine(5, 5, 5));
        refused("engine(0, 5, 5)", -1, x -> x.engine(0, 5, 5));
        refused("engine(1001, 5, 5)", -1, x -> x.engine(1001, 5, 5));
        refused("engine(5, -1, 5)", -1, x -> x.engine(5, -1, 5));
        refused("engine(5, 1001, 5)", -1, x -> x.engine(5, 1001, 5));
        refused("engine(5, 5, -1)", -1, x -> x.engine(5, 5, -1));
        refused("engine(5, 5, 1001)", -1, x -> x.engine(5, 5, 1001));
        refused("mill(-1, 5)", -1, x -> x.mill(-1, 5));
        refused("mill(61, 5)", -1, x -> x.mill(61, 5));
        refused("mill(9, -1)", -1, x -> x.mill(9, -1));
        refused("mill(9, 1001)", -1, x -> x.mill(9, 1001));
        refused("demand(-1, 5)", -1, x -> x.demand(-1, 5));
        refused("demand(24, 5)", -1, x -> x.demand(24, 5));
        refused("demand(0, -1)", -1, x -> x.demand(0, -1));
        refused("demand(0, 10001)", -1, x -> x.demand(0, 10001));
        refused("on(16)", -1, x -> x.on(16));
        refused("on(-1)", -1, x -> x.on(-1));
        refused("on(MIN)", -1, x -> x.on(MIN));
        refused("plan(0)", -1, x -> x.plan(0));
        refused("plan(51)", -1, x -> x.plan(51));
        refused("plan(101)", -1, x -> x.plan(101));
        refused("plan(MAX)", -1, x -> x.plan(MAX));
    }

    private static void storeCalls() {
        refused("box(1, 10)", -1, x -> x.box(1, 10));
        refused("box(1, -1)", -1, x -> x.box(1, -1));
        refused("box(6, 10)", -1, x -> x.box(6, 10));
        refused("box(0, 10)", -1, x -> x.box(0, 10));
        refused("box(6, 1)", -2, x -> x.box(6, 1));
        refused("box(-1, 1)", -2, x -> x.box(-1, 1));
        refused("box(0, 1)", -5, x -> x.box(0, 1));
        refused("box(5, 1)", -5, x -> x.box(5, 1));
        refused("take(-1)", -1, x -> x.take(-1));
        refused("take(10)", -1, x -> x.take(10));
        refused("take(9)", -3, x -> x.take(9));
    }

    private static void crewCalls() {
        refused("person(5)", -5, x -> x.person(5));
        refused("person(-1)", -1, x -> x.person(-1));
        refused("person(256)", -1, x -> x.person(256));
        refused("ill(0, 2360, 2370)", -5, x -> x.ill(0, 2360, 2370));
        refused("ill(14, 2360, 2370)", -2, x -> x.ill(14, 2360, 2370));
        refused("ill(-1, 2360, 2370)", -2, x -> x.ill(-1, 2360, 2370));
        refused("ill(0, 2370, 2369)", -1, x -> x.ill(0, 2370, 2369));
        refused("ill(14, 0, 2400)", -1, x -> x.ill(14, 0, 2400));
        refused("ill(0, -1, 2370)", -1, x -> x.ill(0, -1, 2370));
        refused("work(1, 1, 1, 1)", -5, x -> x.work(1, 1, 1, 1));
        refused("work(0, 1, 1, 1)", -1, x -> x.work(0, 1, 1, 1));
        refused("work(25, 1, 1, 1)", -1, x -> x.work(25, 1, 1, 1));
        refused("work(1, 0, 1, 1)", -1, x -> x.work(1, 0, 1, 1));
        refused("work(1, 5, 1, 1)", -1, x -> x.work(1, 5, 1, 1));
        refused("work(1, 1, -1, 1)", -1, x -> x.work(1, 1, -1, 1));
        refused("work(1, 1, 256, 1)", -1, x -> x.work(1, 1, 256, 1));
        refused("work(1, 1, 1, -1)", -1, x -> x.work(1, 1, 1, -1));
        refused("work(1, 1, 1, 4)", -1, x -> x.work(1, 1, 1, 4));
    }

    private static void radioCalls() {
        refused("radio(-1, 5, 5)", -1, x -> x.radio(-1, 5, 5));
        refused("radio(0, 24, 5)", -1, x -> x.radio(0, 24, 5));
        refused("radio(6, 5, 5)", -1, x -> x.radio(6, 5, 5));
        refused("radio(0, 5, 0)", -1, x -> x.radio(0, 5, 0));
        refused("radio(0, 5, 1001)", -1, x -> x.radio(0, 5, 1001));
        refused("message(5, 3)", -5, x -> x.message(5, 3));
        refused("message(0, 3)", -1, x -> x.message(0, 3));
        refused("message(10001, 3)", -1, x -> x.message(10001, 3));
        refused("message(5, -1)", -1, x -> x.message(5, -1));
        refused("message(5, 4)", -1, x -> x.message(5, 4));
        refused("fail(2349, 0)", -5, x -> x.fail(2349, 0));
        refused("fail(-1, 0)", -1, x -> x.fail(-1, 0));
        refused("fail(2400, 0)", -1, x -> x.fail(2400, 0));
        refused("fail(2349, -1)", -1, x -> x.fail(2349, -1));
        refused("fail(2349, 100001)", -1, x -> x.fail(2349, 100001));
        refused("go(0)", -1, x -> x.go(0));
        refused("go(-1)", -1, x -> x.go(-1));
        refused("go(50)", -1, x -> x.go(50));
        refused("go(201)", -1, x -> x.go(201));
        refused("go(MAX)", -1, x -> x.go(MAX));
    }

    // An object answers 512 calls, of which making it full takes some 330: each probe asks 150.
    private static void askedProbes() {
        for (int from = 0; from < 2400; from += 25) {
            int first = from;
            PROBES.add((x, all) -> {
                for (int h = first; h < first + 25; h++) {
                    for (int what = 0; what <= 5; what++) {
                        all.append(x.hour(h, what)).append(' ');
                    }
                }
            });
        }
        for (int which = 0; which <= 1; which++) {
            int what = which;
            PROBES.add((x, all) -> {
                for (int i = -1; i < 100; i++) {
                    all.append(x.planned(i, what)).append(' ');
                }
                for (int work = 0; work < 30; work++) {
                    all.append(x.begins(work, what)).append(' ');
                }
            });
        }
        for (int which = 0; which <= 2; which++) {
            int what = which;
            PROBES.add((x, all) -> {
                for (int i = 0; i < 100; i++) {
                    all.append(x.sent(i, what)).append(' ');
                }
            });
        }
        for (int hour : new int[] {0, 30, 100000}) {
            PROBES.add((x, all) -> {
                for (int i = 0; i < 100; i++) {
                    all.append(x.arrived(i, hour)).append(' ');
                }
            });
        }
        PROBES.add((x, all) -> {
            for (int what = 0; what <= 12; what++) {
                all.append(x.count(what)).append(' ');
            }
            for (int i = 0; i < 6 * 13; i++) {
                all.append(x.stack(i / 13, i % 13 - 1)).append(' ');
            }
            all.append(x.fault()).append(' ').append(x.land(0)).append(' ').append(x.land(2357));
        });
    }

    /** What can't be asked shows in what is done next. */
    private static void doneProbes() {
        PROBES.add((x, all) -> {
            all.append(x.plan(50)).append(' ');
            for (int i = -1; i < 50; i++) {
                all.append(x.planned(i, 0)).append(' ').append(x.planned(i, 1)).append(' ');
            }
            all.append(x.on(0));
        });
        PROBES.add((x, all) -> {
            for (int w = 0; w <= 60; w++) {
                x.weather(2360, 2360, w, false, 0);
                all.append(x.hour(2360, 5)).append(' ');
            }
        });
        PROBES.add((x, all) -> {
            all.append(x.schedule()).append(' ');
            for (int work = 0; work < 30; work++) {
                all.append(x.begins(work, 0)).append(' ').append(x.begins(work, 1)).append(' ');
            }
        });
        PROBES.add((x, all) -> {
            all.append(x.go(49)).append(' ').append(x.count(9)).append(' ');
            for (int i = 0; i < 100; i++) {
                all.append(x.sent(i, 0)).append(' ');
            }
        });
        PROBES.add((x, all) -> {
            all.append(x.rules()).append(' ').append(x.fault()).append(' ');
            all.append(x.count(11)).append(' ').append(x.count(12)).append(' ');
            for (int i = 0; i < 24; i++) {
                all.append(x.take(i % 5)).append(' ').append(x.count(3)).append(' ');
            }
        });
    }

    private static void changesNothing() {
        List<String> without = new ArrayList<>();
        for (BiConsumer<WinterStation, StringBuilder> probe : PROBES) {
            without.add(answers(full(), probe));
        }
        for (int i = 0; i < CALLS.size(); i++) {
            for (int p = 0; p < PROBES.size(); p++) {
                WinterStation x = full();
                CALLS.get(i).applyAsInt(x);
                boolean same = answers(x, PROBES.get(p)).equals(without.get(p));
                D.due(NAMES.get(i) + " was refused, but changed probe " + p, same ? 0 : 1, 0);
            }
        }
    }

    private static String answers(WinterStation x, BiConsumer<WinterStation, StringBuilder> probe) {
        StringBuilder all = new StringBuilder();
        probe.accept(x, all);
        return all.toString();
    }
}
