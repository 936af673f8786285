/**
 * A winter station, hour by hour: its weather, power, boxes, works, rules, messages and landings.
 *
 * <p>Calls that can be refused answer a code below 0 and leave everything as it was; every other
 * answer of theirs is 0 or above, which is how {@link #status()} tells them apart.
 */
public final class WinterStation {
    /** There is none. */
    public static final int NONE = -1;

    private static final int WRONG_NUMBER = -1;
    private static final int NO_SUCH = -2;
    private static final int NOBODY_HAS_IT = -3;
    private static final int NO_ROOM = -5;
    private static final int WRONG_TEXT = -6;
    private static final int NO_HOUR_ANSWER = -1000;

    private static final int HOURS = 2400;
    private static final int DAY = 24;
    private static final int MAX_WIND = 60;
    private static final int MIN_COLD = -90;
    private static final int MAX_COLD = 20;
    private static final int MAX_WEATHER_HOURS = 300;
    private static final int MAX_GO = 200;

    private final Sky sky = new Sky();
    private final Power power = new Power();
    private final Store store = new Store();
    private final Crew crew = new Crew();
    private final Tape tape = new Tape();
    private final RuleReader reader = new RuleReader();
    private final Radio air = new Radio();
    private RuleBook book = new RuleBook();
    private RuleBook spareBook = new RuleBook();
    private int now;
    private int faultPlace = NONE;
    private int refusal;

    /** A station at hour 0 in which nothing is there. */
    public WinterStation() {
    }

    /** Tells the weather of the hours from one to another one, both among them. */
    public int weather(int from, int to, int wind, boolean light, int cold) {
        boolean hoursCanBe = isSpan(from, to) && to - from < MAX_WEATHER_HOURS;
        boolean airCanBe = within(wind, 0, MAX_WIND) && within(cold, MIN_COLD, MAX_COLD);
        if (!hoursCanBe || !airCanBe) {
            return answered(WRONG_NUMBER);
        }
        sky.cover(from, to, wind, light, cold);
        return answered(0);
    }

    /** Of an hour: 0 wind, 1 light, 2 cold, 3 ration, 4 demand as it is left, 5 what the mill gives. */
    public int hour(int hour, int what) {
        if (!isHour(hour)) {
            return NO_HOUR_ANSWER;
        }
        switch (what) {
            case 0:
                return sky.windAt(hour);
            case 1:
                return sky.lightAt(hour) ? 1 : 0;
            case 2:
                return sky.coldAt(hour);
            case 3:
                return book.rationAt(hour, sky);
            case 4:
                return power.demandLeft(hour, sky, book);
            case 5:
                return power.millAt(hour, sky);
            default:
                return NO_HOUR_ANSWER;
        }
    }

    /** Adds an engine: its number. */
    public int engine(int output, int start, int burn) {
        return answered(power.addEngine(output, start, burn));
    }

    /** Tells what the mill gives by a wind. */
    public int mill(int wind, int gives) {
        return answered(power.setMill(wind, gives));
    }

    /** Tells the demand of an hour of the day. */
    public int demand(int hour, int amount) {
        return answered(power.setDemand(hour, amount));
    }

    /** Tells which engines run ahead of a plan: which did so until now. */
    public int on(int bits) {
        return answered(power.switchOn(bits));
    }

    /** Plans n hours from now on: the fuel of the plan. */
    public int plan(int n) {
        return answered(power.makePlan(now, n, sky, book));
    }

    /** Of the latest plan: bits (0) or lack (1) of hour i; for i -1 how many hours, and all lacks. */
    public int planned(int i, int what) {
        return power.ofPlan(i, what);
    }

    /** Puts a box onto a stack: how many it has. */
    public int box(int stack, int kind) {
        return answered(store.put(stack, kind));
    }

    /** Takes a box of a kind from where the least are lifted: the stack. */
    public int take(int kind) {
        return answered(store.takeOne(kind));
    }

    /** The kind of box i of a stack, or for i -1 how many there are. */
    public int stack(int stack, int i) {
        return store.ofStack(stack, i);
    }

    /** Adds a person: the number. */
    public int person(int skills) {
        return answered(crew.addPerson(skills));
    }

    /** Adds a spell in which a person is ill: how many spells there are. */
    public int ill(int person, int from, int to) {
        return answered(crew.addSpell(person, from, to));
    }

    /** Adds a work: its number. */
    public int work(int hours, int people, int skills, int sort) {
        return answered(crew.addWork(hours, people, skills, sort));
    }

    /** Gives the works to people from now on: how many works are left. */
    public int schedule() {
        return crew.makeSchedule(now, sky, book);
    }

    /** Of a work in the latest schedule: where it begins (0), who is at it, as bits (1). */
    public int begins(int work, int what) {
        return crew.ofWork(work, what);
    }

    /** Puts twenty bytes behind the tape: how many it has. */
    public int feed(int a, int b, int c, int d, int e) {
        if (!tape.hasRoom()) {
            return NONE;
        }
        tape.append(a);
        tape.append(b);
        tape.append(c);
        tape.append(d);
        tape.append(e);
        return tape.length;
    }

    /** Cuts the tape behind its first n bytes: n. */
    public int end(int n) {
        if (!within(n, 0, tape.length)) {
            return NONE;
        }
        tape.length = n;
        return n;
    }

    /** Makes rules of the tape, which is empty then: how many. */
    public int rules() {
        boolean isRead = reader.read(tape, spareBook);
        tape.length = 0;
        if (!isRead) {
            faultPlace = reader.place();
            return answered(WRONG_TEXT);
        }
        RuleBook old = book;
        book = spareBook;
        spareBook = old;
        faultPlace = NONE;
        return answered(book.rules);
    }

    /** The place at which the latest text could not go on as rules. */
    public int fault() {
        return faultPlace;
    }

    /** Tells the radio hours and the bytes of an hour. */
    public int radio(int first, int last, int bytes) {
        return answered(air.tune(first, last, bytes));
    }

    /** Adds a message: its number. */
    public int message(int bytes, int rank) {
        return answered(air.addMessage(bytes, rank));
    }

    /** Adds a failure of an hour, known from another one on: how many there are. */
    public int fail(int hour, int known) {
        return answered(air.addFailure(hour, known));
    }

    /** Lets hours go by: the hour that it is then. */
    public int go(int hours) {
        if (!within(hours, 1, MAX_GO) || now + hours >= HOURS) {
            return answered(WRONG_NUMBER);
        }
        int until = now + hours;
        for (int h = now; h < until; h++) {
            air.passHour(h);
        }
        now = until;
        return answered(now);
    }

    /** Of a message: 0 bytes sent, 1 the hour of its first, 2 the hour of its last. */
    public int sent(int message, int what) {
        return air.ofMessage(message, what);
    }

    /** Whether a message has arrived, by the failures known at an hour. */
    public int arrived(int message, int known) {
        return air.hasArrived(message, known);
    }

    /** The first hour from one on in which a plane can land. */
    public int land(int from) {
        return isHour(from) ? sky.firstLanding(from) : NONE;
    }

    /** How many there are of what the number names. */
    public int count(int what) {
        switch (what) {
            case 0:
                return now;
            case 1:
                return power.engines;
            case 2:
                return store.boxes;
            case 3:
                return store.lifted;
            case 4:
                return crew.people;
            case 5:
                return crew.works;
            case 6:
                return book.rules;
            case 7:
                return air.messages;
            case 8:
                return air.failures;
            case 9:
                return air.sentInAll;
            case 10:
                return tape.length;
            case 11:
                return book.rest;
            case 12:
                return book.bound;
            default:
                return NONE;
        }
    }

    /** What the latest call that can be refused was refused by, or 0. */
    public int status() {
        return refusal;
    }

    private int answered(int answer) {
        refusal = Math.min(answer, 0);
        return answer;
    }

    private static boolean within(int number, int low, int high) {
        return low <= number && number <= high;
    }

    private static boolean isHour(int hour) {
        return within(hour, 0, HOURS - 1);
    }

    private static boolean isSpan(int from, int to) {
        return isHour(from) && isHour(to) && from <= to;
    }

    /** The weather of every hour. Who asks for an hour has tested that it is one. */
    private static final class Sky {
        private static final int WIND_MASK = 63;
        private static final int LIGHT_BIT = 64;
        private static final int COLD_SHIFT = 7;
        private static final int LANDING_HOURS = 3;
        private static final int LANDING_WIND = 15;
        private static final int LANDING_COLD = -50;

        // One number an hour, as three rows would be most of what an object takes; COLD stands
        // highest, so that it keeps its sign and 0 is the weather of a new object.
        private final int[] packed = new int[HOURS];

        void cover(int from, int to, int wind, boolean light, int cold) {
            int one = (cold << COLD_SHIFT) | (light ? LIGHT_BIT : 0) | wind;
            for (int h = from; h <= to; h++) {
                packed[h] = one;
            }
        }

        int windAt(int hour) {
            return packed[hour] & WIND_MASK;
        }

        boolean lightAt(int hour) {
            return (packed[hour] & LIGHT_BIT) != 0;
        }

        int coldAt(int hour) {
            return packed[hour] >> COLD_SHIFT;
        }

        int firstLanding(int from) {
            int calm = 0;
            for (int h = from; h < HOURS; h++) {
                calm = isCalm(h) ? calm + 1 : 0;
                if (calm == LANDING_HOURS) {
                    return h - LANDING_HOURS + 1;
                }
            }
            return NONE;
        }

        private boolean isCalm(int hour) {
            return lightAt(hour) && windAt(hour) <= LANDING_WIND && coldAt(hour) >= LANDING_COLD;
        }
    }

    /** Engines, mill, demand and the latest plan. A set of engines is told by its bits. */
    private static final class Power {
        private static final int MAX_ENGINES = 4;
        private static final int SETS = 16;
        private static final int MAX_POWER = 1000;
        private static final int MAX_DEMAND = 10_000;
        private static final int MAX_PLAN = 100;
        // 100 hours in which 4 engines start and burn 1000 each make 800,000.
        private static final int ABOVE_ALL_FUEL = 1_000_000;

        private final int[] outputs = new int[SETS];
        private final int[] starts = new int[SETS];
        private final int[] burns = new int[SETS];
        private final int[] millGives = new int[MAX_WIND + 1];
        private final int[] demands = new int[DAY];
        private final byte[] choices = new byte[MAX_PLAN * SETS];
        private final int[] fuelFrom = new int[SETS];
        private final int[] fuelBehind = new int[SETS];
        private final int[] planSets = new int[MAX_PLAN];
        private final int[] planLacks = new int[MAX_PLAN];
        private int planHours;
        private int planLack;
        private int running;
        private int engines;

        int addEngine(int output, int start, int burn) {
            if (!within(output, 1, MAX_POWER) || !within(start, 0, MAX_POWER)
                    || !within(burn, 0, MAX_POWER)) {
                return WRONG_NUMBER;
            }
            if (engines >= MAX_ENGINES) {
                return NO_ROOM;
            }
            int others = 1 << engines;
            for (int set = 0; set < others; set++) {
                outputs[others + set] = outputs[set] + output;
                starts[others + set] = starts[set] + start;
                burns[others + set] = burns[set] + burn;
            }
            engines++;
            return engines - 1;
        }

        int setMill(int wind, int gives) {
            if (!within(wind, 0, MAX_WIND) || !within(gives, 0, MAX_POWER)) {
                return WRONG_NUMBER;
            }
            millGives[wind] = gives;
            return 0;
        }

        int setDemand(int hour, int amount) {
            if (!within(hour, 0, DAY - 1) || !within(amount, 0, MAX_DEMAND)) {
                return WRONG_NUMBER;
            }
            demands[hour] = amount;
            return 0;
        }

        int switchOn(int bits) {
            if (!within(bits, 0, (1 << engines) - 1)) {
                return WRONG_NUMBER;
            }
            int old = running;
            running = bits;
            return old;
        }

        int millAt(int hour, Sky sky) {
            return millGives[sky.windAt(hour)];
        }

        int demandLeft(int hour, Sky sky, RuleBook book) {
            int whole = demands[hour % DAY];
            return whole - whole * book.rationAt(hour, sky) / 100;
        }

        int makePlan(int now, int n, Sky sky, RuleBook book) {
            if (!within(n, 1, MAX_PLAN) || now + n > HOURS) {
                return WRONG_NUMBER;
            }
            for (int set = 0; set < SETS; set++) {
                fuelBehind[set] = 0;
            }
            // From the last hour back, so that the lower set of two alike can be chosen at each
            // hour with all that follows it known.
            for (int i = n - 1; i >= 0; i--) {
                int hour = now + i;
                weighHour(i, demandLeft(hour, sky, book) - millAt(hour, sky));
            }
            keepPlan(n);
            return fuelBehind[running];
        }

        // Any set may run in any hour, so the sum of lacks is least when each hour's own is.
        private void weighHour(int i, int need) {
            int sets = 1 << engines;
            int leastLack = lackOf(need, sets - 1);
            planLacks[i] = leastLack;
            for (int before = 0; before < sets; before++) {
                fuelFrom[before] = ABOVE_ALL_FUEL;
            }
            for (int set = 0; set < sets; set++) {
                if (lackOf(need, set) == leastLack) {
                    weighSet(i, set);
                }
            }
            System.arraycopy(fuelFrom, 0, fuelBehind, 0, sets);
        }

        // Sets come from the lowest on, so that only one with less fuel takes a choice over.
        private void weighSet(int i, int set) {
            int sets = 1 << engines;
            int fuelOn = burns[set] + fuelBehind[set];
            for (int before = 0; before < sets; before++) {
                int fuel = fuelOn + starts[set & ~before];
                if (fuel < fuelFrom[before]) {
                    fuelFrom[before] = fuel;
                    choices[i * SETS + before] = (byte) set;
                }
            }
        }

        private int lackOf(int need, int set) {
            return Math.max(0, need - outputs[set]);
        }

        private void keepPlan(int n) {
            int set = running;
            planLack = 0;
            for (int i = 0; i < n; i++) {
                set = choices[i * SETS + set];
                planSets[i] = set;
                planLack += planLacks[i];
            }
            planHours = n;
        }

        int ofPlan(int i, int what) {
            if (!within(what, 0, 1) || !within(i, NONE, planHours - 1) || planHours == 0) {
                return NONE;
            }
            if (i == NONE) {
                return what == 0 ? planHours : planLack;
            }
            return what == 0 ? planSets[i] : planLacks[i];
        }
    }

    /** Boxes in stacks. */
    private static final class Store {
        private static final int STACKS = 6;
        private static final int MAX_HEIGHT = 12;
        private static final int MAX_KIND = 9;

        private final int[] kinds = new int[STACKS * MAX_HEIGHT];
        private final int[] heights = new int[STACKS];
        private int boxes;
        private int lifted;

        int put(int stack, int kind) {
            if (!within(kind, 0, MAX_KIND)) {
                return WRONG_NUMBER;
            }
            if (!isStack(stack)) {
                return NO_SUCH;
            }
            int height = heights[stack];
            if (height >= MAX_HEIGHT) {
                return NO_ROOM;
            }
            kinds[stack * MAX_HEIGHT + height] = kind;
            heights[stack] = height + 1;
            boxes++;
            return height + 1;
        }

        int takeOne(int kind) {
            if (!within(kind, 0, MAX_KIND)) {
                return WRONG_NUMBER;
            }
            int from = NONE;
            int fewest = MAX_HEIGHT;
            for (int stack = 0; stack < STACKS; stack++) {
                int above = boxesAbove(stack, kind);
                if (above < fewest) {
                    fewest = above;
                    from = stack;
                }
            }
            if (from == NONE) {
                return NOBODY_HAS_IT;
            }
            removeBelow(from, fewest);
            return from;
        }

        // How many lie above the uppermost of a kind; more than can lie there, if there is none.
        private int boxesAbove(int stack, int kind) {
            int height = heights[stack];
            for (int above = 0; above < height; above++) {
                if (kinds[stack * MAX_HEIGHT + height - 1 - above] == kind) {
                    return above;
                }
            }
            return MAX_HEIGHT;
        }

        private void removeBelow(int stack, int above) {
            int last = heights[stack] - 1;
            int base = stack * MAX_HEIGHT;
            for (int i = last - above; i < last; i++) {
                kinds[base + i] = kinds[base + i + 1];
            }
            heights[stack] = last;
            boxes--;
            lifted += above;
        }

        int ofStack(int stack, int i) {
            if (!isStack(stack) || !within(i, NONE, heights[stack] - 1)) {
                return NONE;
            }
            return i == NONE ? heights[stack] : kinds[stack * MAX_HEIGHT + i];
        }

        private static boolean isStack(int stack) {
            return within(stack, 0, STACKS - 1);
        }
    }

    /** People, their spells of illness, works and the latest schedule. */
    private static final class Crew {
        private static final int MAX_PEOPLE = 14;
        private static final int MAX_SPELLS = 30;
        private static final int MAX_WORKS = 30;
        private static final int MAX_SKILLS = 255;
        private static final int MAX_WORK_HOURS = 24;
        private static final int MAX_WORK_PEOPLE = 4;
        private static final int OUTSIDE = 1;
        private static final int BY_LIGHT = 2;
        private static final int SEARCHED_HOURS = 300;

        private final int[] personSkills = new int[MAX_PEOPLE];
        private final int[] spellPerson = new int[MAX_SPELLS];
        private final int[] spellFrom = new int[MAX_SPELLS];
        private final int[] spellTo = new int[MAX_SPELLS];
        private final int[] workHours = new int[MAX_WORKS];
        private final int[] workPeople = new int[MAX_WORKS];
        private final int[] workSkills = new int[MAX_WORKS];
        private final int[] workSort = new int[MAX_WORKS];
        private final int[] workBegin = new int[MAX_WORKS];
        private final int[] workWho = new int[MAX_WORKS];
        private int people;
        private int spells;
        private int works;
        private int scheduled;

        int addPerson(int skills) {
            if (!within(skills, 0, MAX_SKILLS)) {
                return WRONG_NUMBER;
            }
            if (people >= MAX_PEOPLE) {
                return NO_ROOM;
            }
            personSkills[people] = skills;
            people++;
            return people - 1;
        }

        int addSpell(int person, int from, int to) {
            if (!isSpan(from, to)) {
                return WRONG_NUMBER;
            }
            if (!within(person, 0, people - 1)) {
                return NO_SUCH;
            }
            if (spells >= MAX_SPELLS) {
                return NO_ROOM;
            }
            spellPerson[spells] = person;
            spellFrom[spells] = from;
            spellTo[spells] = to;
            spells++;
            return spells;
        }

        int addWork(int hours, int needed, int skills, int sort) {
            boolean sizeCanBe = within(hours, 1, MAX_WORK_HOURS) && within(needed, 1, MAX_WORK_PEOPLE);
            if (!sizeCanBe || !within(skills, 0, MAX_SKILLS) || !within(sort, 0, OUTSIDE | BY_LIGHT)) {
                return WRONG_NUMBER;
            }
            if (works >= MAX_WORKS) {
                return NO_ROOM;
            }
            workHours[works] = hours;
            workPeople[works] = needed;
            workSkills[works] = skills;
            workSort[works] = sort;
            works++;
            return works - 1;
        }

        int makeSchedule(int now, Sky sky, RuleBook book) {
            int left = 0;
            for (int work = 0; work < works; work++) {
                place(work, now, sky, book);
                if (workBegin[work] == NONE) {
                    left++;
                }
            }
            scheduled = works;
            return left;
        }

        private void place(int work, int now, Sky sky, RuleBook book) {
            workBegin[work] = NONE;
            workWho[work] = NONE;
            int skilled = skilledFor(work);
            if (Integer.bitCount(skilled) < workPeople[work]) {
                return;
            }
            int last = Math.min(now + SEARCHED_HOURS - 1, HOURS - workHours[work]);
            for (int begin = now; begin <= last; begin++) {
                if (isWeatherFor(work, begin, sky, book.bound)) {
                    int free = skilled & ~illDuring(begin, begin + workHours[work] - 1)
                            & ~busyAround(work, begin, book.rest);
                    if (Integer.bitCount(free) >= workPeople[work]) {
                        workBegin[work] = begin;
                        workWho[work] = lowestOf(free, workPeople[work]);
                        return;
                    }
                }
            }
        }

        private int skilledFor(int work) {
            int bits = 0;
            for (int person = 0; person < people; person++) {
                if ((workSkills[work] & ~personSkills[person]) == 0) {
                    bits |= 1 << person;
                }
            }
            return bits;
        }

        private boolean isWeatherFor(int work, int begin, Sky sky, int bound) {
            boolean byLight = (workSort[work] & BY_LIGHT) != 0;
            boolean outside = (workSort[work] & OUTSIDE) != 0;
            int end = begin + workHours[work];
            for (int h = begin; h < end; h++) {
                if ((byLight && !sky.lightAt(h)) || (outside && sky.coldAt(h) < bound)) {
                    return false;
                }
            }
            return true;
        }

        private int illDuring(int first, int last) {
            int bits = 0;
            for (int spell = 0; spell < spells; spell++) {
                if (spellFrom[spell] <= last && first <= spellTo[spell]) {
                    bits |= 1 << spellPerson[spell];
                }
            }
            return bits;
        }

        // Who is at a work placed earlier that leaves them less than the rest on either side.
        private int busyAround(int work, int begin, int rest) {
            int end = begin + workHours[work];
            int bits = 0;
            for (int other = 0; other < work; other++) {
                int otherBegin = workBegin[other];
                boolean isApart = otherBegin + workHours[other] + rest <= begin
                        || end + rest <= otherBegin;
                if (otherBegin != NONE && !isApart) {
                    bits |= workWho[other];
                }
            }
            return bits;
        }

        private static int lowestOf(int bits, int many) {
            int higher = bits;
            for (int i = 0; i < many; i++) {
                higher &= higher - 1;
            }
            return bits & ~higher;
        }

        int ofWork(int work, int what) {
            if (!within(work, 0, scheduled - 1) || !within(what, 0, 1)) {
                return NONE;
            }
            return what == 0 ? workBegin[work] : workWho[work];
        }
    }

    /** The bytes that are to become rules. */
    private static final class Tape {
        private static final int MAX_BYTES = 400;
        private static final int FEED_BYTES = 20;

        private final byte[] bytes = new byte[MAX_BYTES];
        private int length;

        boolean hasRoom() {
            return length <= MAX_BYTES - FEED_BYTES;
        }

        void append(int four) {
            for (int shift = 24; shift >= 0 && length < MAX_BYTES; shift -= 8) {
                bytes[length] = (byte) (four >> shift);
                length++;
            }
        }
    }

    /** Rules as they were read: the rest, the bound, and the tests of every "if". */
    private static final class RuleBook {
        private static final int MAX_RULES = 20;
        private static final int MAX_TESTS = 60;

        private final int[] testSubject = new int[MAX_TESTS];
        private final boolean[] testIsAbove = new boolean[MAX_TESTS];
        private final int[] testNumber = new int[MAX_TESTS];
        private final boolean[] testFollowsOr = new boolean[MAX_TESTS];
        private final int[] ifEnd = new int[MAX_RULES];
        private final int[] ifRation = new int[MAX_RULES];
        private int rules;
        private int tests;
        private int ifs;
        private int rest;
        private int bound = MIN_COLD;

        void clear() {
            rules = 0;
            tests = 0;
            ifs = 0;
            rest = 0;
            bound = MIN_COLD;
        }

        int roomForTests() {
            return MAX_TESTS - tests;
        }

        void addRest(int number) {
            rest = number;
            rules++;
        }

        void addCold(int number) {
            bound = -number;
            rules++;
        }

        void addTest(int subject, boolean isAbove, int number, boolean followsOr) {
            testSubject[tests] = subject;
            testIsAbove[tests] = isAbove;
            testNumber[tests] = number;
            testFollowsOr[tests] = followsOr;
            tests++;
        }

        // The "if" has all tests that no "if" before it has.
        void addIf(int ration) {
            ifEnd[ifs] = tests;
            ifRation[ifs] = ration;
            ifs++;
            rules++;
        }

        int rationAt(int hour, Sky sky) {
            int greatest = 0;
            int first = 0;
            for (int i = 0; i < ifs; i++) {
                if (ifRation[i] > greatest && holds(first, ifEnd[i], hour, sky)) {
                    greatest = ifRation[i];
                }
                first = ifEnd[i];
            }
            return greatest;
        }

        private boolean holds(int first, int end, int hour, Sky sky) {
            boolean allHold = true;
            for (int t = first; t < end; t++) {
                if (testFollowsOr[t]) {
                    if (allHold) {
                        return true;
                    }
                    allHold = true;
                }
                allHold = allHold && testHolds(t, hour, sky);
            }
            return allHold;
        }

        private boolean testHolds(int test, int hour, Sky sky) {
            int seen;
            if (testSubject[test] == RuleReader.WIND) {
                seen = sky.windAt(hour);
            } else if (testSubject[test] == RuleReader.COLD) {
                seen = sky.coldAt(hour);
            } else {
                seen = hour % DAY;
            }
            return testIsAbove[test] ? seen > testNumber[test] : seen < testNumber[test];
        }
    }

    /** Reads rules from a tape. */
    private static final class RuleReader {
        private static final int MAX_NUMBER = 1000;
        private static final int MAX_RATION = 100;

        // A number's token is the number itself, or the first that is too great; all others are
        // below 0.
        private static final int END = -1;
        private static final int OTHER = -2;
        private static final int SEMICOLON = -3;
        private static final int LESS = -4;
        private static final int MORE = -5;
        private static final int MINUS = -6;
        private static final int REST = -7;
        private static final int COLD = -8;
        private static final int IF = -9;
        private static final int RATION = -10;
        private static final int OR = -11;
        private static final int AND = -12;
        private static final int WIND = -13;
        private static final int HOUR = -14;

        private final int[] tokens = new int[Tape.MAX_BYTES];
        private final int[] places = new int[Tape.MAX_BYTES];
        private int size;
        private int endPlace;
        private int at;

        /** Whether the tape is rules, which the book has then; else place() tells the fault. */
        boolean read(Tape tape, RuleBook book) {
            split(tape);
            book.clear();
            at = 0;
            if (token() == END) {
                return true;
            }
            for (int rule = 0; rule < RuleBook.MAX_RULES; rule++) {
                if (!readRule(book)) {
                    return false;
                }
                if (token() == END) {
                    return true;
                }
                if (token() != SEMICOLON) {
                    return false;
                }
                at++;
            }
            return false;
        }

        /** Where the token stands that is to be read next. */
        int place() {
            return at < size ? places[at] : endPlace;
        }

        private int token() {
            return at < size ? tokens[at] : END;
        }

        private boolean readRule(RuleBook book) {
            int word = token();
            if (word != REST && word != COLD && word != IF) {
                return false;
            }
            at++;
            if (word == IF) {
                return readIf(book);
            }
            int number = token();
            if (!within(number, 0, MAX_NUMBER)) {
                return false;
            }
            at++;
            if (word == REST) {
                book.addRest(number);
            } else {
                book.addCold(number);
            }
            return true;
        }

        // "and" binds closer than "or", so it is enough to keep which tests follow an "or".
        private boolean readIf(RuleBook book) {
            boolean followsOr = false;
            boolean isMore = true;
            for (int room = book.roomForTests(); isMore && room > 0; room--) {
                if (!readTest(book, followsOr)) {
                    return false;
                }
                followsOr = token() == OR;
                isMore = followsOr || token() == AND;
                if (isMore) {
                    at++;
                }
            }
            if (isMore || token() != RATION) {
                return false;
            }
            at++;
            int ration = token();
            if (!within(ration, 0, MAX_RATION)) {
                return false;
            }
            at++;
            book.addIf(ration);
            return true;
        }

        private boolean readTest(RuleBook book, boolean followsOr) {
            int subject = token();
            if (subject != WIND && subject != COLD && subject != HOUR) {
                return false;
            }
            at++;
            int sign = token();
            if (sign != LESS && sign != MORE) {
                return false;
            }
            at++;
            boolean isMinus = token() == MINUS;
            if (isMinus) {
                at++;
            }
            int number = token();
            if (!within(number, 0, MAX_NUMBER)) {
                return false;
            }
            at++;
            book.addTest(subject, sign == MORE, isMinus ? -number : number, followsOr);
            return true;
        }

        private void split(Tape tape) {
            size = 0;
            endPlace = tape.length;
            int end = 0;
            for (int from = 0; from < endPlace; from++) {
                if (from >= end && tape.bytes[from] != ' ') {
                    end = endOfToken(tape, from);
                    tokens[size] = tokenOf(tape, from, end);
                    places[size] = from;
                    size++;
                }
            }
        }

        private static int endOfToken(Tape tape, int from) {
            int first = tape.bytes[from];
            int end = from + 1;
            while (end < tape.length && isSameRow(first, tape.bytes[end])) {
                end++;
            }
            return end;
        }

        private static boolean isSameRow(int first, int other) {
            return isLetter(first) && isLetter(other) || isDigit(first) && isDigit(other);
        }

        private static int tokenOf(Tape tape, int from, int end) {
            int first = tape.bytes[from];
            if (isLetter(first)) {
                return wordToken(tape, from, end);
            }
            return isDigit(first) ? numberToken(tape, from, end) : signToken(first);
        }

        private static boolean isLetter(int one) {
            return within(one, 'a', 'z');
        }

        private static boolean isDigit(int one) {
            return within(one, '0', '9');
        }

        private static int numberToken(Tape tape, int from, int end) {
            int number = 0;
            for (int i = from; i < end; i++) {
                number = Math.min(number * 10 + tape.bytes[i] - '0', MAX_NUMBER + 1);
            }
            return number;
        }

        private static int signToken(int one) {
            switch (one) {
                case ';':
                    return SEMICOLON;
                case '<':
                    return LESS;
                case '>':
                    return MORE;
                case '-':
                    return MINUS;
                default:
                    return OTHER;
            }
        }

        private static int wordToken(Tape tape, int from, int end) {
            if (isWord("rest", tape, from, end)) {
                return REST;
            }
            if (isWord("cold", tape, from, end)) {
                return COLD;
            }
            if (isWord("if", tape, from, end)) {
                return IF;
            }
            if (isWord("ration", tape, from, end)) {
                return RATION;
            }
            if (isWord("or", tape, from, end)) {
                return OR;
            }
            if (isWord("and", tape, from, end)) {
                return AND;
            }
            if (isWord("wind", tape, from, end)) {
                return WIND;
            }
            return isWord("hour", tape, from, end) ? HOUR : OTHER;
        }

        private static boolean isWord(String word, Tape tape, int from, int end) {
            if (word.length() != end - from) {
                return false;
            }
            for (int i = from; i < end; i++) {
                if (word.charAt(i - from) != tape.bytes[i]) {
                    return false;
                }
            }
            return true;
        }
    }

    /** Messages, the hours in which their bytes were sent, and failures. */
    private static final class Radio {
        private static final int MAX_MESSAGES = 100;
        private static final int MAX_FAILURES = 60;
        private static final int MAX_HOUR_BYTES = 1000;
        private static final int MAX_MESSAGE_BYTES = 10_000;
        private static final int MAX_RANK = 3;
        private static final int MAX_KNOWN = 100_000;

        private int firstOfDay;
        private int lastOfDay = DAY - 1;
        private int hourBytes = 100;
        private final int[] messageBytes = new int[MAX_MESSAGES];
        private final int[] messageRank = new int[MAX_MESSAGES];
        private final int[] messageSent = new int[MAX_MESSAGES];
        private final int[] firstHour = new int[MAX_MESSAGES];
        private final int[] lastHour = new int[MAX_MESSAGES];
        // In an hour one message at most gets bytes without getting its last: its number and 1.
        // With lastHour this tells every hour of every message.
        private final byte[] unfinished = new byte[HOURS];
        private final int[] failureHour = new int[MAX_FAILURES];
        private final int[] failureKnown = new int[MAX_FAILURES];
        private int messages;
        private int failures;
        private int sentInAll;

        int tune(int first, int last, int bytes) {
            boolean hoursCanBe = within(first, 0, DAY - 1) && within(last, first, DAY - 1);
            if (!hoursCanBe || !within(bytes, 1, MAX_HOUR_BYTES)) {
                return WRONG_NUMBER;
            }
            firstOfDay = first;
            lastOfDay = last;
            hourBytes = bytes;
            return 0;
        }

        int addMessage(int bytes, int rank) {
            if (!within(bytes, 1, MAX_MESSAGE_BYTES) || !within(rank, 0, MAX_RANK)) {
                return WRONG_NUMBER;
            }
            if (messages >= MAX_MESSAGES) {
                return NO_ROOM;
            }
            messageBytes[messages] = bytes;
            messageRank[messages] = rank;
            firstHour[messages] = NONE;
            lastHour[messages] = NONE;
            messages++;
            return messages - 1;
        }

        int addFailure(int hour, int known) {
            if (!isHour(hour) || !within(known, 0, MAX_KNOWN)) {
                return WRONG_NUMBER;
            }
            if (failures >= MAX_FAILURES) {
                return NO_ROOM;
            }
            failureHour[failures] = hour;
            failureKnown[failures] = known;
            failures++;
            return failures;
        }

        void passHour(int hour) {
            if (!within(hour % DAY, firstOfDay, lastOfDay)) {
                return;
            }
            int room = hourBytes;
            for (int rank = MAX_RANK; rank >= 0; rank--) {
                for (int m = 0; m < messages && room > 0; m++) {
                    if (messageRank[m] == rank && !isAllSent(m)) {
                        room -= sendPart(m, hour, room);
                    }
                }
            }
        }

        private int sendPart(int message, int hour, int room) {
            int part = Math.min(room, messageBytes[message] - messageSent[message]);
            if (messageSent[message] == 0) {
                firstHour[message] = hour;
            }
            messageSent[message] += part;
            sentInAll += part;
            if (isAllSent(message)) {
                lastHour[message] = hour;
            } else {
                unfinished[hour] = (byte) (message + 1);
            }
            return part;
        }

        private boolean isAllSent(int message) {
            return messageSent[message] == messageBytes[message];
        }

        int ofMessage(int message, int what) {
            if (!isMessage(message)) {
                return NONE;
            }
            switch (what) {
                case 0:
                    return messageSent[message];
                case 1:
                    return firstHour[message];
                case 2:
                    return lastHour[message];
                default:
                    return NONE;
            }
        }

        int hasArrived(int message, int known) {
            if (!isMessage(message) || !within(known, 0, MAX_KNOWN)) {
                return NONE;
            }
            if (!isAllSent(message)) {
                return 0;
            }
            for (int f = 0; f < failures; f++) {
                int hour = failureHour[f];
                boolean isHit = lastHour[message] == hour || unfinished[hour] == message + 1;
                if (failureKnown[f] <= known && isHit) {
                    return 0;
                }
            }
            return 1;
        }

        private boolean isMessage(int message) {
            return within(message, 0, messages - 1);
        }
    }
}
