/** What every test uses: answers held against those that are due, and texts fed to the tape. */
final class Due {
    private final String test;
    private String sentence = "";
    private int calls;
    private int wrong;
    private int sentences;
    private int callsAtSentence = -1;

    Due(String test) {
        this.test = test;
    }

    /** Names the words of the document that the answers from here on are due by. */
    void sentence(String words) {
        endSentence();
        sentence = words;
        sentences++;
        callsAtSentence = calls;
    }

    // A sentence without an answer would pass for tested.
    private void endSentence() {
        if (calls == callsAtSentence) {
            wrong++;
            System.out.println(test + ": nothing is tested of [" + sentence + "]");
        }
        callsAtSentence = -1;
    }

    void due(String call, int got, int want) {
        calls++;
        if (got != want) {
            wrong++;
            if (wrong <= 50) {
                String by = sentence.isEmpty() ? "" : " by [" + sentence + "]";
                System.out.println(test + ": " + call + " answered " + got + ", due is " + want + by);
            }
        }
    }

    /** A call was refused by a code, and status() tells it. */
    void refused(WinterStation x, String call, int got, int code) {
        due(call, got, code);
        due("status() behind " + call, x.status(), code);
    }

    /** A call that can be refused was not, and status() tells so. */
    void taken(WinterStation x, String call, int got, int want) {
        due(call, got, want);
        due("status() behind " + call, x.status(), 0);
    }

    /** Prints the sum and ends the test, with exit code 1 if an answer was wrong. */
    void end() {
        endSentence();
        String of = sentences > 0 ? " by " + sentences + " sentences" : "";
        System.out.println(test + ": " + calls + " answers" + of + ", " + wrong + " not as due");
        if (wrong != 0 || calls == 0) {
            System.exit(1);
        }
    }

    /** Makes the tape, whatever it has, be this text (of at most 400 characters 0 to 255). */
    static void tape(WinterStation x, String text) {
        x.end(0);
        for (int at = 0; at < text.length(); at += 20) {
            x.feed(four(text, at), four(text, at + 4), four(text, at + 8), four(text, at + 12),
                    four(text, at + 16));
        }
        x.end(text.length());
    }

    /** The answer of rules() to a text. */
    static int rules(WinterStation x, String text) {
        tape(x, text);
        return x.rules();
    }

    /** Lets hours go by until it is this one. */
    static void goTo(WinterStation x, int hour) {
        while (x.count(0) < hour) {
            x.go(Math.min(200, hour - x.count(0)));
        }
    }

    private static int four(String text, int at) {
        int number = 0;
        for (int i = at; i < at + 4; i++) {
            number = number << 8 | (i < text.length() ? text.charAt(i) : ' ');
        }
        return number;
    }
}
