/** The boundary cases of promises 13 to 17 (Terms V): person, ill, work, schedule, begins. */
public final class CrewEdgesTest {
    private static final Due D = new Due("CrewEdgesTest");
    private static final int MIN = Integer.MIN_VALUE;
    private static final int MAX = Integer.MAX_VALUE;

    public static void main(String[] args) {
        skillsOfPeople();
        fourteenPeople();
        hoursOfSpells();
        spellsNotBackwards();
        noSuchPerson();
        thirtySpells();
        orderOfCodes();
        bothEndsOfASpell();
        workHours();
        workPeople();
        workSkills();
        workSorts();
        thirtyWorks();
        emptySchedules();
        threeHundredHours();
        threeHundredFromNow();
        aheadOfTheEnd();
        lightInAllHours();
        coldNotBelowBound();
        boundsOfRules();
        skillsThatAreNeeded();
        peopleEnough();
        lowestGo();
        restAhead();
        restBehind();
        restOfRules();
        leftOnesKeepNobody();
        worksInOrder();
        latestSchedule();
        beginsOfWorks();
        beginsWhats();
        D.end();
    }

    private static void skillsOfPeople() {
        D.sentence("13: SKILLS (bits 0 .. 255)");
        WinterStation x = new WinterStation();
        for (int skills : new int[] {-1, 256, 511, MIN, MAX}) {
            D.refused(x, "person(" + skills + ")", x.person(skills), -1);
            D.due("people", x.count(4), 0);
        }
        D.taken(x, "person(0)", x.person(0), 0);
        D.taken(x, "person(255)", x.person(255), 1);
        x.work(1, 1, 255, 0);
        x.work(1, 2, 0, 0);
        D.due("schedule()", x.schedule(), 0);
        D.due("255 has all", x.begins(0, 1), 2);
        D.due("0 is enough for 0", x.begins(1, 1), 3);
    }

    private static void fourteenPeople() {
        D.sentence("V: PEOPLE 0 .. 13 (14 at most)");
        WinterStation x = new WinterStation();
        for (int i = 0; i < 14; i++) {
            D.taken(x, "person " + i, x.person(i < 13 ? 1 : 2), i);
            D.due("people", x.count(4), i + 1);
        }
        for (int skills : new int[] {0, 255}) {
            D.refused(x, "a fifteenth", x.person(skills), -5);
            D.due("people", x.count(4), 14);
        }
        D.refused(x, "a fifteenth that can't be", x.person(256), -1);
        x.work(1, 1, 2, 0);
        D.due("schedule()", x.schedule(), 0);
        D.due("the last is at it", x.begins(0, 1), 1 << 13);
        D.taken(x, "the last is ill", x.ill(13, 0, 0), 1);
        D.due("schedule()", x.schedule(), 0);
        D.due("it begins later", x.begins(0, 0), 1);
    }

    private static void hoursOfSpells() {
        D.sentence("14: ILL from an HOUR to an HOUR, 0 .. 2399");
        WinterStation x = new WinterStation();
        x.person(0);
        int[][] wrong = {{-1, 0}, {-1, -1}, {0, 2400}, {2400, 2400}, {2399, 2400}, {MIN, 0}, {0, MAX},
            {MIN, MAX}};
        for (int[] w : wrong) {
            D.refused(x, "ill(0, " + w[0] + ", " + w[1] + ")", x.ill(0, w[0], w[1]), -1);
        }
        D.taken(x, "ill(0, 0, 0)", x.ill(0, 0, 0), 1);
        D.taken(x, "ill(0, 2399, 2399)", x.ill(0, 2399, 2399), 2);
        D.taken(x, "ill(0, 0, 2399)", x.ill(0, 0, 2399), 3);
    }

    private static void spellsNotBackwards() {
        D.sentence("14: from an HOUR to an HOUR, not back");
        WinterStation x = new WinterStation();
        x.person(0);
        D.taken(x, "ill(0, 9, 9)", x.ill(0, 9, 9), 1);
        D.refused(x, "ill(0, 9, 8)", x.ill(0, 9, 8), -1);
        D.refused(x, "ill(0, 2399, 0)", x.ill(0, 2399, 0), -1);
        D.refused(x, "ill(0, MAX, MIN)", x.ill(0, MAX, MIN), -1);
        D.taken(x, "ill(0, 8, 9)", x.ill(0, 8, 9), 2);
    }

    private static void noSuchPerson() {
        D.sentence("14: -2 there is no such person");
        WinterStation x = new WinterStation();
        D.refused(x, "ill(0, 0, 0) of nobody", x.ill(0, 0, 0), -2);
        for (int people = 1; people <= 14; people++) {
            x.person(0);
            D.refused(x, "the next", x.ill(people, 0, 0), -2);
            D.taken(x, "the last", x.ill(people - 1, 0, 0), people);
        }
        for (int person : new int[] {-1, 14, 15, MIN, MAX}) {
            D.refused(x, "ill(" + person + ", 0, 0)", x.ill(person, 0, 0), -2);
        }
    }

    private static void thirtySpells() {
        D.sentence("V: 30 spells at most");
        WinterStation x = new WinterStation();
        x.person(1);
        x.person(2);
        x.work(1, 1, 2, 0);
        for (int i = 1; i <= 29; i++) {
            D.taken(x, "spell " + i, x.ill(0, i, i), i);
        }
        D.taken(x, "spell 30, of another person", x.ill(1, 0, 4), 30);
        D.refused(x, "one more", x.ill(1, 0, 2399), -5);
        D.refused(x, "one more of the first", x.ill(0, 50, 50), -5);
        D.due("schedule()", x.schedule(), 0);
        D.due("the thirtieth counts and no other", x.begins(0, 0), 5);
    }

    private static void orderOfCodes() {
        D.sentence("14: -1; -2; -5, the first in that order");
        WinterStation x = new WinterStation();
        x.person(0);
        for (int i = 0; i < 30; i++) {
            x.ill(0, 0, 0);
        }
        D.refused(x, "hours, nobody, no room", x.ill(1, 1, 0), -1);
        D.refused(x, "hours, no room", x.ill(0, 1, 0), -1);
        D.refused(x, "hours, nobody", x.ill(-1, 0, 2400), -1);
        D.refused(x, "nobody, no room", x.ill(1, 0, 0), -2);
        D.refused(x, "no room", x.ill(0, 0, 0), -5);
    }

    private static void bothEndsOfASpell() {
        D.sentence("V: not ILL in any of its HOURS");
        int[][] due = {{1, 0, 0, 1}, {1, 1, 5, 0}, {3, 2, 5, 6}, {3, 3, 5, 0}, {24, 23, 23, 24}, {24, 24, 30, 0}};
        for (int[] one : due) {
            WinterStation x = new WinterStation();
            x.person(0);
            x.work(one[0], 1, 0, 0);
            x.ill(0, one[1], one[2]);
            D.due("schedule()", x.schedule(), 0);
            D.due(one[0] + " hours, ill " + one[1] + " to " + one[2], x.begins(0, 0), one[3]);
        }
        WinterStation y = new WinterStation();
        y.person(0);
        y.work(3, 1, 0, 0);
        y.ill(0, 0, 0);
        y.ill(0, 3, 3);
        y.ill(0, 6, 6);
        y.ill(0, 10, 20);
        D.due("schedule()", y.schedule(), 0);
        D.due("the gap of three", y.begins(0, 0), 7);
    }

    private static void workHours() {
        D.sentence("V: hours (1 .. 24, without a break)");
        WinterStation x = new WinterStation();
        for (int hours : new int[] {0, -1, 25, MIN, MAX}) {
            D.refused(x, "work(" + hours + ", 1, 0, 0)", x.work(hours, 1, 0, 0), -1);
            D.due("works", x.count(5), 0);
        }
        x.person(0);
        D.taken(x, "work(24, 1, 0, 0)", x.work(24, 1, 0, 0), 0);
        D.taken(x, "work(1, 1, 0, 0)", x.work(1, 1, 0, 0), 1);
        D.taken(x, "work(2, 1, 0, 0)", x.work(2, 1, 0, 0), 2);
        D.due("schedule()", x.schedule(), 0);
        D.due("behind 24 hours", x.begins(1, 0), 24);
        D.due("behind 1 hour", x.begins(2, 0), 25);
    }

    private static void workPeople() {
        D.sentence("V: people (1 .. 4)");
        WinterStation x = new WinterStation();
        for (int people : new int[] {0, -1, 5, MIN, MAX}) {
            D.refused(x, "work(1, " + people + ", 0, 0)", x.work(1, people, 0, 0), -1);
            D.due("works", x.count(5), 0);
        }
        for (int people = 1; people <= 4; people++) {
            WinterStation y = new WinterStation();
            for (int i = 0; i < 5; i++) {
                y.person(0);
            }
            D.taken(y, "work of " + people, y.work(1, people, 0, 0), 0);
            D.due("schedule()", y.schedule(), 0);
            D.due("who is at it", y.begins(0, 1), (1 << people) - 1);
        }
    }

    private static void workSkills() {
        D.sentence("V: SKILLS that each of them needs (bits 0 .. 255)");
        WinterStation x = new WinterStation();
        for (int skills : new int[] {-1, 256, MIN, MAX}) {
            D.refused(x, "work(1, 1, " + skills + ", 0)", x.work(1, 1, skills, 0), -1);
            D.due("works", x.count(5), 0);
        }
        D.taken(x, "work(1, 1, 0, 0)", x.work(1, 1, 0, 0), 0);
        D.taken(x, "work(1, 1, 255, 0)", x.work(1, 1, 255, 0), 1);
        x.person(254);
        D.due("254 can't do 255", x.schedule(), 1);
        D.due("but 0", x.begins(0, 0), 0);
    }

    private static void workSorts() {
        D.sentence("15: sort: 1 outside, 2 by LIGHT, 3 both, 0 neither");
        WinterStation x = new WinterStation();
        for (int sort : new int[] {-1, 4, 5, MIN, MAX}) {
            D.refused(x, "work(1, 1, 0, " + sort + ")", x.work(1, 1, 0, sort), -1);
            D.due("works", x.count(5), 0);
        }
        for (int sort = 0; sort <= 3; sort++) {
            x.person(0);
            D.taken(x, "work(1, 1, 0, " + sort + ")", x.work(1, 1, 0, sort), sort);
        }
        Due.rules(x, "cold 10");
        x.weather(0, 299, 0, false, -11);
        x.weather(5, 5, 0, false, -10);
        x.weather(6, 6, 0, true, -11);
        x.weather(7, 7, 0, true, -10);
        D.due("schedule()", x.schedule(), 0);
        int[] begins = {0, 5, 6, 7};
        for (int sort = 0; sort <= 3; sort++) {
            D.due("sort " + sort, x.begins(sort, 0), begins[sort]);
        }
    }

    private static void thirtyWorks() {
        D.sentence("V: WORKS 0 .. 29 (30 at most)");
        WinterStation x = new WinterStation();
        x.person(0);
        for (int i = 0; i < 30; i++) {
            D.taken(x, "work " + i, x.work(1, 1, 0, 0), i);
            D.due("works", x.count(5), i + 1);
        }
        D.refused(x, "one more", x.work(1, 1, 0, 0), -5);
        D.refused(x, "one more that can't be", x.work(0, 1, 0, 0), -1);
        D.refused(x, "one more that can't be", x.work(1, 1, 0, 4), -1);
        D.due("works", x.count(5), 30);
        D.due("schedule()", x.schedule(), 0);
        for (int i = 0; i < 30; i++) {
            D.due("begins(" + i + ", 0)", x.begins(i, 0), i);
            D.due("begins(" + i + ", 1)", x.begins(i, 1), 1);
        }
    }

    private static void emptySchedules() {
        D.sentence("16: how many are LEFT, without works, without people");
        WinterStation x = new WinterStation();
        D.due("no works, no people", x.schedule(), 0);
        x.person(255);
        D.due("no works", x.schedule(), 0);
        WinterStation y = new WinterStation();
        for (int i = 1; i <= 30; i++) {
            y.work(1, 1, 0, 0);
            D.due("no people", y.schedule(), i);
            D.due("left", y.begins(i - 1, 0), -1);
            D.due("left", y.begins(i - 1, 1), -1);
        }
    }

    private static void threeHundredHours() {
        D.sentence("V: the first of the 300 HOURS from NOW on");
        for (int hours : new int[] {1, 24}) {
            WinterStation x = new WinterStation();
            x.person(0);
            x.work(hours, 1, 0, 0);
            x.ill(0, 0, 298);
            D.due("schedule()", x.schedule(), 0);
            D.due("the 300th", x.begins(0, 0), 299);
            x.ill(0, 299, 299);
            D.due("the 301st is none of them", x.schedule(), 1);
            D.due("left", x.begins(0, 0), -1);
        }
    }

    private static void threeHundredFromNow() {
        D.sentence("V: SCHEDULE from NOW");
        WinterStation x = new WinterStation();
        x.person(0);
        x.work(1, 1, 0, 2);
        x.weather(199, 199, 0, true, 0);
        x.weather(500, 500, 0, true, 0);
        D.due("schedule()", x.schedule(), 0);
        D.due("at 0", x.begins(0, 0), 199);
        x.go(199);
        D.due("schedule()", x.schedule(), 0);
        D.due("at 199, the first hour", x.begins(0, 0), 199);
        x.go(1);
        D.due("at 200, 500 is the 301st", x.schedule(), 1);
        x.go(1);
        D.due("at 201, 500 is the 300th", x.schedule(), 0);
        D.due("it begins", x.begins(0, 0), 500);
    }

    private static void aheadOfTheEnd() {
        D.sentence("V: it ends ahead of HOUR 2400");
        WinterStation x = new WinterStation();
        x.person(0);
        x.person(0);
        x.work(24, 1, 0, 0);
        x.work(1, 1, 0, 0);
        Due.goTo(x, 2376);
        D.due("at 2376", x.schedule(), 0);
        D.due("24 hours to 2399", x.begins(0, 0), 2376);
        x.go(1);
        D.due("at 2377", x.schedule(), 1);
        D.due("24 hours are left", x.begins(0, 0), -1);
        D.due("1 hour", x.begins(1, 0), 2377);
        x.ill(0, 2377, 2398);
        x.ill(1, 2377, 2398);
        D.due("schedule()", x.schedule(), 1);
        D.due("the last hour", x.begins(1, 0), 2399);
        x.ill(0, 2399, 2399);
        x.ill(1, 2399, 2399);
        D.due("no hour more", x.schedule(), 2);
        D.due("left", x.begins(1, 0), -1);
    }

    private static void lightInAllHours() {
        D.sentence("V: by LIGHT, LIGHT is in all its HOURS");
        WinterStation x = new WinterStation();
        x.person(0);
        x.work(3, 1, 0, 2);
        D.due("no light", x.schedule(), 1);
        x.weather(4, 5, 0, true, 0);
        D.due("two hours", x.schedule(), 1);
        x.weather(7, 8, 0, true, 0);
        D.due("two and two", x.schedule(), 1);
        x.weather(9, 9, 0, true, 0);
        D.due("three", x.schedule(), 0);
        D.due("it begins", x.begins(0, 0), 7);
        x.weather(6, 6, 0, true, 0);
        D.due("six", x.schedule(), 0);
        D.due("it begins", x.begins(0, 0), 4);
        x.weather(0, 9, 0, false, 0);
        x.weather(299, 300, 0, true, 0);
        D.due("behind the 300 two alone", x.schedule(), 1);
        x.weather(301, 301, 0, true, 0);
        D.due("behind the 300 all", x.schedule(), 0);
        D.due("it begins", x.begins(0, 0), 299);
    }

    private static void coldNotBelowBound() {
        D.sentence("V: outside, COLD is not below BOUND in any of them");
        WinterStation x = new WinterStation();
        x.person(0);
        x.work(2, 1, 0, 1);
        Due.rules(x, "cold 40");
        x.weather(0, 299, 0, true, -41);
        x.weather(300, 300, 0, true, -41);
        D.due("all are below", x.schedule(), 1);
        x.weather(10, 10, 0, true, -40);
        D.due("one hour", x.schedule(), 1);
        x.weather(12, 12, 0, true, 20);
        D.due("one and one", x.schedule(), 1);
        x.weather(13, 13, 0, false, -40);
        D.due("two hours", x.schedule(), 0);
        D.due("it begins", x.begins(0, 0), 12);
        Due.rules(x, "cold 41");
        D.due("schedule()", x.schedule(), 0);
        D.due("-41 is not below -41", x.begins(0, 0), 0);
    }

    private static void boundsOfRules() {
        D.sentence("III: BOUND: less the NUMBER of the last \"cold\", -90 without");
        WinterStation x = new WinterStation();
        x.person(0);
        x.work(1, 1, 0, 1);
        x.weather(0, 299, 0, true, -90);
        D.due("without: -90 is not below it", x.schedule(), 0);
        D.due("it begins", x.begins(0, 0), 0);
        Due.rules(x, "cold 1000");
        D.due("-1000", x.count(12), -1000);
        D.due("schedule()", x.schedule(), 0);
        Due.rules(x, "cold 89");
        D.due("-90 is below -89", x.schedule(), 1);
        Due.rules(x, "cold 0");
        D.due("bound 0", x.count(12), 0);
        x.weather(8, 8, 0, true, -1);
        x.weather(9, 9, 0, true, 0);
        D.due("schedule()", x.schedule(), 0);
        D.due("0 is not below 0", x.begins(0, 0), 9);
        Due.rules(x, "cold 0;cold 1;rest 7");
        D.due("schedule()", x.schedule(), 0);
        D.due("the last counts", x.begins(0, 0), 8);
        Due.rules(x, "");
        D.due("-90 again", x.count(12), -90);
        D.due("schedule()", x.schedule(), 0);
        D.due("it begins", x.begins(0, 0), 0);
    }

    private static void skillsThatAreNeeded() {
        D.sentence("V: with these SKILLS");
        WinterStation x = new WinterStation();
        int[] skills = {0, 1, 6, 7, 128};
        for (int one : skills) {
            x.person(one);
        }
        int[][] due = {{0, 1}, {1, 2}, {2, 4}, {3, 8}, {6, 4}, {7, 8}, {128, 16}};
        for (int[] one : due) {
            WinterStation y = new WinterStation();
            for (int s : skills) {
                y.person(s);
            }
            y.work(1, 1, one[0], 0);
            D.due("schedule()", y.schedule(), 0);
            D.due("who is at skills " + one[0], y.begins(0, 1), one[1]);
        }
        x.work(1, 1, 129, 0);
        x.work(1, 1, 8, 0);
        x.work(1, 3, 1, 0);
        D.due("nobody has both, nobody has it, not three have it", x.schedule(), 3);
    }

    private static void peopleEnough() {
        D.sentence("V: and there are people enough");
        WinterStation x = new WinterStation();
        for (int i = 0; i < 3; i++) {
            x.person(0);
        }
        x.work(2, 3, 0, 0);
        x.work(2, 4, 0, 0);
        D.due("three are not four", x.schedule(), 1);
        D.due("three", x.begins(0, 1), 7);
        D.due("left", x.begins(1, 0), -1);
        x.person(0);
        D.due("four", x.schedule(), 0);
        D.due("all, when all are free", x.begins(1, 0), 2);
        D.due("all", x.begins(1, 1), 15);
        x.ill(3, 2, 2);
        D.due("schedule()", x.schedule(), 0);
        D.due("all, when none is ill", x.begins(1, 0), 3);
    }

    private static void lowestGo() {
        D.sentence("V: the lowest such go");
        WinterStation x = new WinterStation();
        for (int i = 0; i < 14; i++) {
            x.person(i % 2);
        }
        x.ill(3, 0, 0);
        x.work(1, 4, 1, 0);
        x.work(1, 4, 0, 0);
        x.work(1, 4, 0, 0);
        x.work(1, 1, 0, 0);
        x.work(1, 1, 0, 0);
        D.due("schedule()", x.schedule(), 0);
        D.due("1, 5, 7, 9", x.begins(0, 1), 1 << 1 | 1 << 5 | 1 << 7 | 1 << 9);
        D.due("0, 2, 4, 6", x.begins(1, 1), 1 | 1 << 2 | 1 << 4 | 1 << 6);
        D.due("8, 10, 11, 12", x.begins(2, 1), 1 << 8 | 1 << 10 | 1 << 11 | 1 << 12);
        D.due("13", x.begins(3, 1), 1 << 13);
        D.due("0 an hour later", x.begins(4, 1), 1);
        D.due("an hour later", x.begins(4, 0), 1);
    }

    private static void restAhead() {
        D.sentence("V: each of their other WORKS ends REST hours ahead of its beginning, or more");
        int[] rests = {0, 1, 8, 298};
        for (int rest : rests) {
            WinterStation x = new WinterStation();
            x.person(0);
            x.work(1, 1, 0, 0);
            x.work(1, 1, 0, 0);
            Due.rules(x, "rest " + rest);
            D.due("schedule()", x.schedule(), 0);
            D.due("rest " + rest, x.begins(1, 0), 1 + rest);
        }
        WinterStation y = new WinterStation();
        y.person(0);
        y.work(1, 1, 0, 0);
        y.work(1, 1, 0, 0);
        Due.rules(y, "rest 299");
        D.due("rest 299 leaves none of the 300", y.schedule(), 1);
        Due.rules(y, "rest 1000");
        D.due("rest 1000", y.schedule(), 1);
        y.person(0);
        D.due("another person", y.schedule(), 0);
        D.due("at once", y.begins(1, 0), 0);
        D.due("who", y.begins(1, 1), 2);
    }

    private static void restBehind() {
        D.sentence("V: or begins REST hours behind its end, or more");
        for (int rest : new int[] {0, 1, 5}) {
            WinterStation x = new WinterStation();
            x.person(0);
            x.work(1, 1, 0, 2);
            x.work(4, 1, 0, 0);
            x.work(1, 1, 0, 0);
            x.weather(4 + rest, 4 + rest, 0, true, 0);
            Due.rules(x, "rest " + rest);
            D.due("schedule()", x.schedule(), 0);
            D.due("by light", x.begins(0, 0), 4 + rest);
            D.due("just ahead of it", x.begins(1, 0), 0);
            D.due("behind both", x.begins(2, 0), 5 + 2 * rest);
        }
        WinterStation y = new WinterStation();
        y.person(0);
        y.work(1, 1, 0, 2);
        y.work(4, 1, 0, 0);
        y.weather(8, 8, 0, true, 0);
        Due.rules(y, "rest 5");
        D.due("schedule()", y.schedule(), 0);
        D.due("an hour too little ahead of it", y.begins(1, 0), 14);
    }

    private static void restOfRules() {
        D.sentence("III: REST: of the last \"rest\", 0 without");
        WinterStation x = new WinterStation();
        x.person(0);
        x.work(2, 1, 0, 0);
        x.work(2, 1, 0, 0);
        D.due("schedule()", x.schedule(), 0);
        D.due("0 without", x.begins(1, 0), 2);
        Due.rules(x, "rest 9;cold 5;rest 3;cold 6");
        D.due("schedule()", x.schedule(), 0);
        D.due("the last", x.begins(1, 0), 5);
        Due.rules(x, "cold 5");
        D.due("schedule()", x.schedule(), 0);
        D.due("0 without", x.begins(1, 0), 2);
    }

    private static void leftOnesKeepNobody() {
        D.sentence("V: If there is none, it is LEFT");
        WinterStation x = new WinterStation();
        x.person(0);
        x.work(24, 1, 1, 0);
        x.work(24, 1, 0, 2);
        x.work(24, 2, 0, 0);
        x.work(1, 1, 0, 0);
        Due.rules(x, "rest 1000");
        D.due("schedule()", x.schedule(), 3);
        for (int i = 0; i < 3; i++) {
            D.due("begins(" + i + ", 0)", x.begins(i, 0), -1);
            D.due("begins(" + i + ", 1)", x.begins(i, 1), -1);
        }
        D.due("the fourth is free to begin", x.begins(3, 0), 0);
        D.due("who", x.begins(3, 1), 1);
    }

    private static void worksInOrder() {
        D.sentence("V: WORKS in order");
        WinterStation x = new WinterStation();
        x.person(3);
        x.person(1);
        x.work(2, 1, 1, 0);
        x.work(2, 1, 2, 0);
        x.work(2, 1, 1, 0);
        D.due("schedule()", x.schedule(), 0);
        D.due("the first takes the lowest", x.begins(0, 1), 1);
        D.due("so that the second waits", x.begins(1, 0), 2);
        D.due("and the third does not", x.begins(2, 0), 0);
        D.due("who", x.begins(2, 1), 2);
    }

    private static void latestSchedule() {
        D.sentence("16: SCHEDULE is made, kept as the latest");
        WinterStation x = new WinterStation();
        x.person(0);
        x.work(1, 1, 0, 0);
        x.schedule();
        x.ill(0, 0, 5);
        x.go(3);
        x.work(1, 1, 0, 0);
        D.due("kept", x.begins(0, 0), 0);
        D.due("not in it", x.begins(1, 0), -1);
        D.due("not in it", x.begins(1, 1), -1);
        D.due("schedule()", x.schedule(), 0);
        D.due("made anew", x.begins(0, 0), 6);
        D.due("in it", x.begins(1, 0), 7);
        x.ill(0, 0, 2399);
        D.due("schedule()", x.schedule(), 2);
        D.due("left now", x.begins(0, 0), -1);
        D.due("left now", x.begins(0, 1), -1);
        x.go(0);
        x.schedule();
        D.due("status() is not touched", x.status(), -1);
    }

    private static void beginsOfWorks() {
        D.sentence("17: NONE without, or LEFT");
        WinterStation x = new WinterStation();
        x.person(0);
        for (int i = 0; i < 30; i++) {
            x.work(1, 1, 0, 0);
        }
        for (int work : new int[] {-1, 0, 29, 30, MIN, MAX}) {
            D.due("ahead of any: begins(" + work + ", 0)", x.begins(work, 0), -1);
            D.due("ahead of any: begins(" + work + ", 1)", x.begins(work, 1), -1);
        }
        x.schedule();
        for (int work : new int[] {-1, 30, 31, MIN, MAX}) {
            D.due("begins(" + work + ", 0)", x.begins(work, 0), -1);
            D.due("begins(" + work + ", 1)", x.begins(work, 1), -1);
        }
        D.due("begins(0, 0)", x.begins(0, 0), 0);
        D.due("begins(29, 0)", x.begins(29, 0), 29);
        D.due("status() is not touched", x.status(), 0);
    }

    private static void beginsWhats() {
        D.sentence("17: (what 0), (1), and no other");
        WinterStation x = new WinterStation();
        x.person(0);
        x.work(1, 1, 0, 0);
        x.schedule();
        D.due("begins(0, 0)", x.begins(0, 0), 0);
        D.due("begins(0, 1)", x.begins(0, 1), 1);
        for (int what : new int[] {-1, 2, MIN, MAX}) {
            D.due("begins(0, " + what + ")", x.begins(0, what), -1);
        }
    }
}
