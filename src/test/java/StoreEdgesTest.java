/** The boundary cases of promises 10 to 12 (Terms IV): box, take, stack. */
public final class StoreEdgesTest {
    private static final Due D = new Due("StoreEdgesTest");
    private static final int MIN = Integer.MIN_VALUE;
    private static final int MAX = Integer.MAX_VALUE;

    public static void main(String[] args) {
        kindsOfBoxes();
        stacksOfBoxes();
        twelveBoxes();
        allStacksFull();
        roomAgain();
        orderOfCodes();
        kindsToTake();
        noneHasIt();
        nothingAbove();
        elevenAbove();
        fewestAbove();
        lowerStack();
        uppermostOfAKind();
        lastOfAStack();
        boxesOfAStack();
        noSuchStack();
        emptyStack();
        D.end();
    }

    private static void kindsOfBoxes() {
        D.sentence("IV: KINDS 0 .. 9");
        WinterStation x = new WinterStation();
        for (int kind : new int[] {-1, 10, MIN, MAX}) {
            D.refused(x, "box(0, " + kind + ")", x.box(0, kind), -1);
            D.due("boxes", x.count(2), 0);
            D.due("height", x.stack(0, -1), 0);
        }
        for (int kind = 0; kind <= 9; kind++) {
            D.taken(x, "box(0, " + kind + ")", x.box(0, kind), kind + 1);
            D.due("its kind", x.stack(0, kind), kind);
        }
    }

    private static void stacksOfBoxes() {
        D.sentence("IV: STACKS 0 .. 5");
        WinterStation x = new WinterStation();
        for (int stack : new int[] {-1, 6, MIN, MAX}) {
            D.refused(x, "box(" + stack + ", 3)", x.box(stack, 3), -2);
            D.due("boxes", x.count(2), 0);
        }
        for (int stack = 0; stack <= 5; stack++) {
            D.taken(x, "box(" + stack + ", 3)", x.box(stack, 3), 1);
            D.due("boxes", x.count(2), stack + 1);
            D.due("height", x.stack(stack, -1), 1);
        }
    }

    private static void twelveBoxes() {
        D.sentence("IV: each of at most 12 BOXES");
        WinterStation x = new WinterStation();
        x.box(1, 9);
        for (int i = 1; i <= 12; i++) {
            D.taken(x, "box " + i, x.box(0, 1), i);
        }
        for (int kind : new int[] {0, 1, 9}) {
            D.refused(x, "one more", x.box(0, kind), -5);
            D.due("height", x.stack(0, -1), 12);
            D.due("the uppermost", x.stack(0, 11), 1);
            D.due("boxes", x.count(2), 13);
            D.due("the next stack's lowest", x.stack(1, 0), 9);
        }
        D.taken(x, "another stack", x.box(1, 8), 2);
    }

    private static void allStacksFull() {
        D.sentence("IV: STACKS 0 .. 5, each of at most 12 BOXES");
        WinterStation x = new WinterStation();
        for (int i = 0; i < 72; i++) {
            D.taken(x, "box " + i, x.box(i % 6, (i * 7 + i / 6) % 10), i / 6 + 1);
        }
        D.due("boxes", x.count(2), 72);
        for (int stack = 0; stack < 6; stack++) {
            D.refused(x, "box(" + stack + ", 0)", x.box(stack, 0), -5);
            D.due("height", x.stack(stack, -1), 12);
            for (int i = 0; i < 12; i++) {
                D.due("stack(" + stack + ", " + i + ")", x.stack(stack, i), ((i * 6 + stack) * 7 + i) % 10);
            }
        }
        D.due("boxes", x.count(2), 72);
    }

    private static void roomAgain() {
        D.sentence("10: -5, until one is TAKEN");
        WinterStation x = new WinterStation();
        for (int i = 0; i < 12; i++) {
            x.box(2, 4);
        }
        D.refused(x, "box(2, 5)", x.box(2, 5), -5);
        D.taken(x, "take(4)", x.take(4), 2);
        D.taken(x, "box(2, 5)", x.box(2, 5), 12);
        D.refused(x, "box(2, 5)", x.box(2, 5), -5);
    }

    private static void orderOfCodes() {
        D.sentence("10: -1 KIND; -2; -5, the first in that order");
        WinterStation x = new WinterStation();
        for (int i = 0; i < 12; i++) {
            x.box(3, 4);
        }
        D.refused(x, "kind, no such stack", x.box(6, 10), -1);
        D.refused(x, "kind, no such stack", x.box(-1, -1), -1);
        D.refused(x, "kind, no room", x.box(3, 10), -1);
        D.refused(x, "no such stack", x.box(6, 9), -2);
        D.refused(x, "no room", x.box(3, 9), -5);
    }

    private static void kindsToTake() {
        D.sentence("11: -1, of KINDS 0 .. 9");
        WinterStation x = new WinterStation();
        for (int kind = 0; kind <= 9; kind++) {
            x.box(kind / 2, kind);
        }
        for (int kind : new int[] {-1, 10, MIN, MAX}) {
            D.refused(x, "take(" + kind + ")", x.take(kind), -1);
            D.due("boxes", x.count(2), 10);
        }
        for (int kind = 9; kind >= 0; kind--) {
            D.taken(x, "take(" + kind + ")", x.take(kind), kind / 2);
            D.due("boxes", x.count(2), kind);
        }
    }

    private static void noneHasIt() {
        D.sentence("11: -3 none has it");
        WinterStation x = new WinterStation();
        D.refused(x, "take(0) of no boxes", x.take(0), -3);
        for (int stack = 0; stack < 6; stack++) {
            x.box(stack, 1);
            x.box(stack, 8);
        }
        for (int kind : new int[] {0, 2, 7, 9}) {
            D.refused(x, "take(" + kind + ")", x.take(kind), -3);
            D.due("boxes", x.count(2), 12);
            D.due("lifted", x.count(3), 0);
        }
        x.box(5, 9);
        D.taken(x, "take(9)", x.take(9), 5);
        D.refused(x, "take(9) again", x.take(9), -3);
    }

    private static void nothingAbove() {
        D.sentence("IV: so many are LIFTED, none");
        WinterStation x = new WinterStation();
        x.box(4, 1);
        x.box(4, 2);
        D.taken(x, "take(2)", x.take(2), 4);
        D.due("lifted", x.count(3), 0);
        D.due("height", x.stack(4, -1), 1);
        D.due("the other", x.stack(4, 0), 1);
    }

    private static void elevenAbove() {
        D.sentence("IV: so many are LIFTED and put back as they were, eleven");
        WinterStation x = new WinterStation();
        x.box(5, 9);
        for (int i = 0; i < 11; i++) {
            x.box(5, i % 9);
        }
        D.taken(x, "take(9)", x.take(9), 5);
        D.due("lifted", x.count(3), 11);
        D.due("height", x.stack(5, -1), 11);
        for (int i = 0; i < 11; i++) {
            D.due("stack(5, " + i + ")", x.stack(5, i), i % 9);
        }
        D.due("no twelfth", x.stack(5, 11), -1);
    }

    private static void fewestAbove() {
        D.sentence("IV: from the STACK in which the fewest lie above");
        WinterStation x = new WinterStation();
        for (int stack = 0; stack < 6; stack++) {
            x.box(stack, 7);
            for (int i = stack; i < 5; i++) {
                x.box(stack, 0);
            }
        }
        int lifted = 0;
        for (int stack = 5; stack >= 0; stack--) {
            D.taken(x, "take(7)", x.take(7), stack);
            lifted += 5 - stack;
            D.due("lifted", x.count(3), lifted);
        }
        D.refused(x, "take(7)", x.take(7), -3);
    }

    private static void lowerStack() {
        D.sentence("IV: the lower STACK of those alike");
        WinterStation x = new WinterStation();
        for (int stack = 5; stack >= 0; stack--) {
            for (int i = 0; i < stack; i++) {
                x.box(stack, 1);
            }
            x.box(stack, 7);
            x.box(stack, 2);
        }
        for (int stack = 0; stack < 6; stack++) {
            D.taken(x, "take(7)", x.take(7), stack);
            D.due("lifted", x.count(3), stack + 1);
        }
    }

    private static void uppermostOfAKind() {
        D.sentence("IV: above its uppermost of that KIND");
        WinterStation x = new WinterStation();
        int[] kinds = {3, 3, 1, 3, 2};
        for (int kind : kinds) {
            x.box(0, kind);
        }
        D.taken(x, "take(3)", x.take(3), 0);
        D.due("lifted", x.count(3), 1);
        int[] left = {3, 3, 1, 2};
        for (int i = 0; i < 4; i++) {
            D.due("stack(0, " + i + ")", x.stack(0, i), left[i]);
        }
        D.taken(x, "take(3)", x.take(3), 0);
        D.due("lifted", x.count(3), 3);
        D.taken(x, "take(3)", x.take(3), 0);
        D.due("lifted", x.count(3), 5);
        D.due("height", x.stack(0, -1), 2);
    }

    private static void lastOfAStack() {
        D.sentence("11: One of a KIND is TAKEN, the last of its STACK");
        WinterStation x = new WinterStation();
        x.box(3, 6);
        D.taken(x, "take(6)", x.take(6), 3);
        D.due("height", x.stack(3, -1), 0);
        D.due("no box", x.stack(3, 0), -1);
        D.due("boxes", x.count(2), 0);
        D.refused(x, "take(6)", x.take(6), -3);
        D.taken(x, "box(3, 2)", x.box(3, 2), 1);
        D.due("its kind", x.stack(3, 0), 2);
    }

    private static void boxesOfAStack() {
        D.sentence("12: BOX i of a STACK (0 the lowest); how many (i -1). NONE.");
        WinterStation x = new WinterStation();
        x.box(0, 4);
        x.box(0, 0);
        x.box(1, 5);
        D.due("stack(0, -1)", x.stack(0, -1), 2);
        D.due("stack(0, 0)", x.stack(0, 0), 4);
        D.due("stack(0, 1)", x.stack(0, 1), 0);
        for (int i : new int[] {-2, 2, 3, 11, 12, 13, MIN, MAX}) {
            D.due("stack(0, " + i + ")", x.stack(0, i), -1);
        }
        for (int i = 2; i < 12; i++) {
            x.box(0, 9);
        }
        D.due("stack(0, -1) of a full one", x.stack(0, -1), 12);
        D.due("stack(0, 11)", x.stack(0, 11), 9);
        D.due("stack(0, 12)", x.stack(0, 12), -1);
        D.due("stack(5, 12)", x.stack(5, 12), -1);
        D.due("status() is not touched", x.status(), 0);
    }

    private static void noSuchStack() {
        D.sentence("12: NONE, of no such STACK");
        WinterStation x = new WinterStation();
        for (int stack = 0; stack < 6; stack++) {
            x.box(stack, 1);
        }
        for (int stack : new int[] {-1, 6, 7, MIN, MAX}) {
            for (int i = -1; i <= 1; i++) {
                D.due("stack(" + stack + ", " + i + ")", x.stack(stack, i), -1);
            }
        }
        D.due("status() is not touched", x.status(), 0);
    }

    private static void emptyStack() {
        D.sentence("12: how many (i -1), of an empty STACK");
        WinterStation x = new WinterStation();
        for (int stack = 0; stack < 6; stack++) {
            D.due("stack(" + stack + ", -1)", x.stack(stack, -1), 0);
            D.due("stack(" + stack + ", 0)", x.stack(stack, 0), -1);
            D.due("stack(" + stack + ", -2)", x.stack(stack, -2), -1);
        }
    }
}
