import java.util.ArrayList;
import java.util.Arrays;
import java.util.Comparator;
import java.util.HashSet;
import java.util.List;
import java.util.Set;
import java.util.TreeMap;

/**
 * The whole document read a second time, in the plainest form and without regard to room or speed.
 * What it answers is held against the class by WholeTest.
 */
final class Plain {
    private final int[] wind = new int[2400];
    private final boolean[] light = new boolean[2400];
    private final int[] cold = new int[2400];
    private final List<int[]> engines = new ArrayList<>();
    private final TreeMap<Integer, Integer> mill = new TreeMap<>();
    private final TreeMap<Integer, Integer> demand = new TreeMap<>();
    private int on;
    private Way plan;
    private final List<List<Integer>> stacks = new ArrayList<>();
    private int lifted;
    private final List<Integer> people = new ArrayList<>();
    private final List<int[]> spells = new ArrayList<>();
    private final List<int[]> works = new ArrayList<>();
    private List<int[]> placed = new ArrayList<>();
    private String tape = "";
    private List<List<String>> rules = new ArrayList<>();
    private int fault = -1;
    private int[] radio = {0, 23, 100};
    private final List<Letter> letters = new ArrayList<>();
    private final List<int[]> failures = new ArrayList<>();
    private int now;
    private int status;

    /** The hours of a plan so far, and what they lack and burn. */
    private record Way(List<Integer> sets, List<Integer> lacks, int lack, int fuel) {
    }

    /** A message and the hour of each of its bytes that was sent. */
    private record Letter(int bytes, int rank, List<Integer> hours) {
    }

    Plain() {
        for (int s = 0; s < 6; s++) {
            stacks.add(new ArrayList<>());
        }
    }

    private static boolean in(int low, int number, int high) {
        return number >= low && number <= high;
    }

    private int refuse(int code) {
        status = code;
        return code;
    }

    private int taken(int answer) {
        status = 0;
        return answer;
    }

    int weather(int from, int to, int w, boolean l, int c) {
        boolean can = in(0, from, 2399) && in(0, to, 2399) && from <= to && to - from + 1 <= 300;
        if (!can || !in(0, w, 60) || !in(-90, c, 20)) {
            return refuse(-1);
        }
        Arrays.fill(wind, from, to + 1, w);
        Arrays.fill(light, from, to + 1, l);
        Arrays.fill(cold, from, to + 1, c);
        return taken(0);
    }

    int hour(int h, int what) {
        if (!in(0, h, 2399) || !in(0, what, 5)) {
            return -1000;
        }
        int[] all = {wind[h], light[h] ? 1 : 0, cold[h], ration(h), demandLeft(h), millGives(h)};
        return all[what];
    }

    private int millGives(int h) {
        return mill.getOrDefault(wind[h], 0);
    }

    private int demandLeft(int h) {
        int whole = demand.getOrDefault(h % 24, 0);
        return whole - Math.floorDiv(whole * ration(h), 100);
    }

    int engine(int output, int start, int burn) {
        if (!in(1, output, 1000) || !in(0, start, 1000) || !in(0, burn, 1000)) {
            return refuse(-1);
        }
        if (engines.size() == 4) {
            return refuse(-5);
        }
        engines.add(new int[] {output, start, burn});
        return taken(engines.size() - 1);
    }

    int mill(int w, int gives) {
        if (!in(0, w, 60) || !in(0, gives, 1000)) {
            return refuse(-1);
        }
        mill.put(w, gives);
        return taken(0);
    }

    int demand(int h, int amount) {
        if (!in(0, h, 23) || !in(0, amount, 10000)) {
            return refuse(-1);
        }
        demand.put(h, amount);
        return taken(0);
    }

    int on(int bits) {
        if (bits < 0 || bits >= 1 << engines.size()) {
            return refuse(-1);
        }
        int old = on;
        on = bits;
        return taken(old);
    }

    /** Forwards: of all ways to the same last set only the best can be the beginning of the best. */
    int plan(int n) {
        if (!in(1, n, 100) || now + n - 1 > 2399) {
            return refuse(-1);
        }
        TreeMap<Integer, Way> ways = new TreeMap<>();
        ways.put(on, new Way(List.of(), List.of(), 0, 0));
        for (int h = now; h < now + n; h++) {
            TreeMap<Integer, Way> next = new TreeMap<>();
            for (int before : ways.keySet()) {
                for (int set = 0; set < 1 << engines.size(); set++) {
                    Way way = step(ways.get(before), before, set, h);
                    next.merge(set, way, (a, b) -> byWords().compare(a, b) <= 0 ? a : b);
                }
            }
            ways = next;
        }
        plan = ways.values().stream().min(byWords()).get();
        return taken(plan.fuel);
    }

    private Way step(Way way, int before, int set, int h) {
        int lack = demandLeft(h) - millGives(h);
        int fuel = way.fuel;
        for (int e = 0; e < engines.size(); e++) {
            if ((set & 1 << e) != 0) {
                lack -= engines.get(e)[0];
                fuel += engines.get(e)[2] + ((before & 1 << e) == 0 ? engines.get(e)[1] : 0);
            }
        }
        lack = Math.max(lack, 0);
        List<Integer> sets = new ArrayList<>(way.sets);
        List<Integer> lacks = new ArrayList<>(way.lacks);
        sets.add(set);
        lacks.add(lack);
        return new Way(sets, lacks, way.lack + lack, fuel);
    }

    private static Comparator<Way> byWords() {
        return Comparator.comparingInt(Way::lack).thenComparingInt(Way::fuel)
                .thenComparing((a, b) -> Arrays.compare(a.sets.toArray(new Integer[0]),
                        b.sets.toArray(new Integer[0])));
    }

    int planned(int i, int what) {
        if (plan == null || !in(0, what, 1) || !in(-1, i, plan.sets.size() - 1)) {
            return -1;
        }
        if (i == -1) {
            return what == 0 ? plan.sets.size() : plan.lack;
        }
        return what == 0 ? plan.sets.get(i) : plan.lacks.get(i);
    }

    int box(int s, int kind) {
        if (!in(0, kind, 9)) {
            return refuse(-1);
        }
        if (!in(0, s, 5)) {
            return refuse(-2);
        }
        if (stacks.get(s).size() == 12) {
            return refuse(-5);
        }
        stacks.get(s).add(kind);
        return taken(stacks.get(s).size());
    }

    int take(int kind) {
        if (!in(0, kind, 9)) {
            return refuse(-1);
        }
        for (int above = 0; above < 12; above++) {
            for (int s = 0; s < 6; s++) {
                List<Integer> boxes = stacks.get(s);
                int at = boxes.lastIndexOf(kind);
                if (at >= 0 && boxes.size() - 1 - at == above) {
                    boxes.remove(at);
                    lifted += above;
                    return taken(s);
                }
            }
        }
        return refuse(-3);
    }

    int stack(int s, int i) {
        if (!in(0, s, 5) || !in(-1, i, stacks.get(s).size() - 1)) {
            return -1;
        }
        return i == -1 ? stacks.get(s).size() : stacks.get(s).get(i);
    }

    int person(int skills) {
        if (!in(0, skills, 255)) {
            return refuse(-1);
        }
        if (people.size() == 14) {
            return refuse(-5);
        }
        people.add(skills);
        return taken(people.size() - 1);
    }

    int ill(int person, int from, int to) {
        if (!in(0, from, 2399) || !in(0, to, 2399) || from > to) {
            return refuse(-1);
        }
        if (!in(0, person, people.size() - 1)) {
            return refuse(-2);
        }
        if (spells.size() == 30) {
            return refuse(-5);
        }
        spells.add(new int[] {person, from, to});
        return taken(spells.size());
    }

    int work(int hours, int needed, int skills, int sort) {
        if (!in(1, hours, 24) || !in(1, needed, 4) || !in(0, skills, 255) || !in(0, sort, 3)) {
            return refuse(-1);
        }
        if (works.size() == 30) {
            return refuse(-5);
        }
        works.add(new int[] {hours, needed, skills, sort});
        return taken(works.size() - 1);
    }

    int schedule() {
        placed = new ArrayList<>();
        int left = 0;
        for (int[] work : works) {
            int[] found = {-1, -1};
            for (int b = now; b < now + 300 && found[0] < 0; b++) {
                int who = isAir(work, b) ? whoGoes(work, b) : -1;
                found = who < 0 ? found : new int[] {b, who};
            }
            left += found[0] < 0 ? 1 : 0;
            placed.add(found);
        }
        return left;
    }

    private boolean isAir(int[] work, int b) {
        for (int h = b; h < b + work[0]; h++) {
            if (h >= 2400) {
                return false;
            }
            if ((work[3] == 2 || work[3] == 3) && !light[h]) {
                return false;
            }
            if ((work[3] == 1 || work[3] == 3) && cold[h] < bound()) {
                return false;
            }
        }
        return true;
    }

    private int whoGoes(int[] work, int b) {
        int bits = 0;
        int found = 0;
        for (int p = 0; p < people.size() && found < work[1]; p++) {
            if ((people.get(p) & work[2]) == work[2] && !isIll(p, work, b) && isRested(p, work, b)) {
                bits |= 1 << p;
                found++;
            }
        }
        return found == work[1] ? bits : -1;
    }

    private boolean isIll(int p, int[] work, int b) {
        for (int[] spell : spells) {
            for (int h = b; h < b + work[0]; h++) {
                if (spell[0] == p && in(spell[1], h, spell[2])) {
                    return true;
                }
            }
        }
        return false;
    }

    private boolean isRested(int p, int[] work, int b) {
        for (int o = 0; o < placed.size(); o++) {
            int begin = placed.get(o)[0];
            if (begin >= 0 && (placed.get(o)[1] & 1 << p) != 0) {
                int between = begin < b ? b - (begin + works.get(o)[0]) : begin - (b + work[0]);
                if (between < rest()) {
                    return false;
                }
            }
        }
        return true;
    }

    int begins(int work, int what) {
        return in(0, work, placed.size() - 1) && in(0, what, 1) ? placed.get(work)[what] : -1;
    }

    int feed(int... numbers) {
        if (tape.length() + 20 > 400) {
            return -1;
        }
        StringBuilder more = new StringBuilder(tape);
        for (int number : numbers) {
            more.append((char) (number >>> 24)).append((char) (number >>> 16 & 255))
                    .append((char) (number >>> 8 & 255)).append((char) (number & 255));
        }
        tape = more.toString();
        return tape.length();
    }

    int end(int n) {
        if (!in(0, n, tape.length())) {
            return -1;
        }
        tape = tape.substring(0, n);
        return n;
    }

    /**
     * Every token is held against the set of those that can go on behind the ones before it; a
     * letter names what is awaited.
     */
    int rules() {
        String text = tape;
        tape = "";
        List<List<String>> read = new ArrayList<>();
        char state = 'S';
        int at = 0;
        while (at < text.length()) {
            if (text.charAt(at) == ' ') {
                at++;
                continue;
            }
            String token = tokenAt(text, at);
            char before = state;
            state = next(before, token, read.size());
            if (state == 'x') {
                fault = at;
                return refuse(-6);
            }
            if (before == 'S' || before == 's') {
                read.add(new ArrayList<>());
            }
            if (before != ';') {
                read.get(read.size() - 1).add(token);
            }
            at += token.length();
        }
        if (state != 'S' && state != ';') {
            fault = text.length();
            return refuse(-6);
        }
        rules = read;
        fault = -1;
        return taken(rules.size());
    }

    private static String tokenAt(String text, int at) {
        String letters = text.substring(at).replaceFirst("(?s)[^a-z].*", "");
        String digits = text.substring(at).replaceFirst("(?s)[^0-9].*", "");
        return !letters.isEmpty() ? letters : !digits.isEmpty() ? digits : text.substring(at, at + 1);
    }

    // S, s a rule (at first, behind ";"); n its number; c a test; o its sign; m "-" or a number;
    // d the number behind "-"; a "and", "or", "ration"; r the number of ration; ; the next rule.
    private static char next(char state, String token, int rules) {
        switch (state) {
            case 'S':
            case 's':
                if (rules == 20) {
                    return 'x';
                }
                return token.equals("if") ? 'c' : token.equals("rest") || token.equals("cold") ? 'n' : 'x';
            case 'n':
                return isNumber(token, 1000) ? ';' : 'x';
            case 'c':
                return Set.of("wind", "cold", "hour").contains(token) ? 'o' : 'x';
            case 'o':
                return token.equals("<") || token.equals(">") ? 'm' : 'x';
            case 'm':
                return token.equals("-") ? 'd' : isNumber(token, 1000) ? 'a' : 'x';
            case 'd':
                return isNumber(token, 1000) ? 'a' : 'x';
            case 'a':
                return token.equals("ration") ? 'r' : token.equals("and") || token.equals("or") ? 'c' : 'x';
            case 'r':
                return isNumber(token, 100) ? ';' : 'x';
            default:
                return token.equals(";") ? 's' : 'x';
        }
    }

    private static boolean isNumber(String token, int most) {
        return token.matches("0*[0-9]{1,4}") && Integer.parseInt(shorten(token)) <= most;
    }

    private static String shorten(String digits) {
        return digits.substring(Math.max(0, digits.length() - 4));
    }

    private int lastOf(String word) {
        int last = -1;
        for (List<String> rule : rules) {
            last = rule.get(0).equals(word) ? Integer.parseInt(shorten(rule.get(1))) : last;
        }
        return last;
    }

    private int rest() {
        return Math.max(0, lastOf("rest"));
    }

    private int bound() {
        return lastOf("cold") < 0 ? -90 : -lastOf("cold");
    }

    private int ration(int h) {
        int greatest = 0;
        for (List<String> rule : rules) {
            if (rule.get(0).equals("if") && holds(rule, h)) {
                greatest = Math.max(greatest, Integer.parseInt(shorten(rule.get(rule.size() - 1))));
            }
        }
        return greatest;
    }

    private boolean holds(List<String> rule, int h) {
        String cond = String.join(" ", rule.subList(1, rule.size() - 2)).replace("- ", "-");
        for (String and : cond.split(" or ")) {
            boolean all = true;
            for (String test : and.split(" and ")) {
                String[] parts = test.split(" ");
                int seen = parts[0].equals("wind") ? wind[h] : parts[0].equals("cold") ? cold[h] : h % 24;
                int number = Integer.parseInt(parts[2]);
                all &= parts[1].equals("<") ? seen < number : seen > number;
            }
            if (all) {
                return true;
            }
        }
        return false;
    }

    int fault() {
        return fault;
    }

    int radio(int first, int last, int bytes) {
        if (!in(0, first, 23) || !in(0, last, 23) || last < first || !in(1, bytes, 1000)) {
            return refuse(-1);
        }
        radio = new int[] {first, last, bytes};
        return taken(0);
    }

    int message(int bytes, int rank) {
        if (!in(1, bytes, 10000) || !in(0, rank, 3)) {
            return refuse(-1);
        }
        if (letters.size() == 100) {
            return refuse(-5);
        }
        letters.add(new Letter(bytes, rank, new ArrayList<>()));
        return taken(letters.size() - 1);
    }

    int fail(int h, int known) {
        if (!in(0, h, 2399) || !in(0, known, 100000)) {
            return refuse(-1);
        }
        if (failures.size() == 60) {
            return refuse(-5);
        }
        failures.add(new int[] {h, known});
        return taken(failures.size());
    }

    int go(int hours) {
        if (!in(1, hours, 200) || now + hours > 2399) {
            return refuse(-1);
        }
        for (int i = 0; i < hours; i++) {
            if (in(radio[0], now % 24, radio[1])) {
                List<Letter> byRank = new ArrayList<>(letters);
                byRank.sort(Comparator.comparingInt(letter -> -letter.rank));
                int room = radio[2];
                for (Letter letter : byRank) {
                    while (room > 0 && letter.hours.size() < letter.bytes) {
                        letter.hours.add(now);
                        room--;
                    }
                }
            }
            now++;
        }
        return taken(now);
    }

    int sent(int message, int what) {
        if (!in(0, message, letters.size() - 1) || !in(0, what, 2)) {
            return -1;
        }
        List<Integer> hours = letters.get(message).hours;
        int size = hours.size();
        if (what == 0) {
            return size;
        }
        if (what == 1) {
            return size == 0 ? -1 : hours.get(0);
        }
        return size < letters.get(message).bytes ? -1 : hours.get(size - 1);
    }

    int arrived(int message, int known) {
        if (!in(0, message, letters.size() - 1) || !in(0, known, 100000)) {
            return -1;
        }
        Set<Integer> hours = new HashSet<>(letters.get(message).hours);
        boolean all = letters.get(message).hours.size() == letters.get(message).bytes;
        return all && failures.stream().noneMatch(f -> f[1] <= known && hours.contains(f[0])) ? 1 : 0;
    }

    int land(int from) {
        for (int h = from; in(0, from, 2399) && h + 2 < 2400; h++) {
            boolean can = true;
            for (int i = h; i <= h + 2; i++) {
                can &= light[i] && wind[i] <= 15 && cold[i] >= -50;
            }
            if (can) {
                return h;
            }
        }
        return -1;
    }

    int count(int what) {
        int boxes = stacks.stream().mapToInt(List::size).sum();
        int bytes = letters.stream().mapToInt(letter -> letter.hours.size()).sum();
        int[] all = {now, engines.size(), boxes, lifted, people.size(), works.size(), rules.size(),
            letters.size(), failures.size(), bytes, tape.length(), rest(), bound()};
        return in(0, what, 12) ? all[what] : -1;
    }

    int status() {
        return status;
    }
}
