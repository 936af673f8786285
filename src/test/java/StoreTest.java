import java.util.ArrayList;
import java.util.List;
import java.util.Random;

/** Promises 10 to 12: box, take, stack. */
public final class StoreTest {
    private static final Due D = new Due("StoreTest");

    public static void main(String[] args) {
        boxes();
        taking();
        stackAnswers();
        Random random = new Random(10);
        for (int round = 0; round < 40; round++) {
            againstLists(random);
        }
        D.end();
    }

    private static void boxes() {
        WinterStation x = new WinterStation();
        for (int kind : new int[] {-1, 10, Integer.MIN_VALUE, Integer.MAX_VALUE}) {
            D.due("box(0, " + kind + ")", x.box(0, kind), -1);
            D.due("status", x.status(), -1);
            D.due("the kind is told ahead of the stack", x.box(6, kind), -1);
        }
        for (int stack : new int[] {-1, 6, Integer.MIN_VALUE, Integer.MAX_VALUE}) {
            D.due("box(" + stack + ", 0)", x.box(stack, 0), -2);
            D.due("status", x.status(), -2);
        }
        D.due("no boxes yet", x.count(2), 0);
        for (int i = 0; i < 12; i++) {
            D.due("box " + i, x.box(5, i % 10), i + 1);
            D.due("status", x.status(), 0);
        }
        D.due("the thirteenth", x.box(5, 0), -5);
        D.due("status", x.status(), -5);
        D.due("the kind is told ahead of no room", x.box(5, 10), -1);
        D.due("count(2)", x.count(2), 12);
        D.due("the lowest of a full stack", x.take(2), 5);
        D.due("all but three were lifted", x.count(3), 9);
        D.due("put back", x.stack(5, 2), 3);
        D.due("put back", x.stack(5, 10), 1);
        D.due("no twelfth", x.stack(5, 11), -1);
        D.due("room again", x.box(5, 6), 12);
        D.due("another stack", x.box(4, 9), 1);
        D.due("count(2)", x.count(2), 13);
    }

    private static void taking() {
        WinterStation x = new WinterStation();
        D.due("take(-1)", x.take(-1), -1);
        D.due("take(10)", x.take(10), -1);
        D.due("take(max)", x.take(Integer.MAX_VALUE), -1);
        D.due("take(0) of none", x.take(0), -3);
        D.due("status", x.status(), -3);
        x.box(2, 4);
        x.box(2, 5);
        x.box(3, 4);
        x.box(3, 6);
        D.due("the lower stack of those alike", x.take(4), 2);
        D.due("status", x.status(), 0);
        D.due("one was lifted", x.count(3), 1);
        D.due("and put back", x.stack(2, 0), 5);
        D.due("fewer above", x.take(4), 3);
        D.due("lifted", x.count(3), 2);
        D.due("none has it any more", x.take(4), -3);
        D.due("lifted stays", x.count(3), 2);
        x.box(0, 5);
        x.box(0, 1);
        x.box(0, 2);
        D.due("the upper stack, as fewer lie above", x.take(5), 2);
        D.due("lifted", x.count(3), 2);
        x.box(0, 5);
        x.box(0, 3);
        D.due("the uppermost of a kind", x.take(5), 0);
        D.due("lifted", x.count(3), 3);
        int[] left = {5, 1, 2, 3};
        for (int i = 0; i < 4; i++) {
            D.due("stack(0, " + i + ")", x.stack(0, i), left[i]);
        }
        D.due("the lowest of four", x.take(5), 0);
        D.due("lifted", x.count(3), 6);
        D.due("as they were", x.stack(0, 0), 1);
        D.due("as they were", x.stack(0, 2), 3);
        D.due("count(2)", x.count(2), 4);
    }

    private static void stackAnswers() {
        WinterStation x = new WinterStation();
        x.box(1, 7);
        x.box(1, 0);
        D.due("stack(1, -1)", x.stack(1, -1), 2);
        D.due("stack(1, 0)", x.stack(1, 0), 7);
        D.due("stack(1, 1)", x.stack(1, 1), 0);
        D.due("stack(1, 2)", x.stack(1, 2), -1);
        D.due("stack(1, -2)", x.stack(1, -2), -1);
        D.due("stack(0, 0)", x.stack(0, 0), -1);
        D.due("stack(0, -1)", x.stack(0, -1), 0);
        for (int stack : new int[] {-1, 6, Integer.MIN_VALUE, Integer.MAX_VALUE}) {
            D.due("stack(" + stack + ", -1)", x.stack(stack, -1), -1);
            D.due("stack(" + stack + ", 0)", x.stack(stack, 0), -1);
        }
        D.due("stack(1, max)", x.stack(1, Integer.MAX_VALUE), -1);
        D.due("stack(1, min)", x.stack(1, Integer.MIN_VALUE), -1);
        D.due("stack does not touch status()", x.status(), 0);
    }

    private static void againstLists(Random random) {
        WinterStation x = new WinterStation();
        List<List<Integer>> stacks = new ArrayList<>();
        for (int s = 0; s < 6; s++) {
            stacks.add(new ArrayList<>());
        }
        int lifted = 0;
        for (int i = 0; i < 60; i++) {
            int kind = random.nextInt(4);
            if (random.nextInt(3) > 0) {
                int s = random.nextInt(6);
                List<Integer> one = stacks.get(s);
                boolean full = one.size() == 12;
                if (!full) {
                    one.add(kind);
                }
                D.due("random box", x.box(s, kind), full ? -5 : one.size());
            } else {
                int from = -3;
                int fewest = 99;
                for (int s = 0; s < 6; s++) {
                    int at = stacks.get(s).lastIndexOf(kind);
                    int above = stacks.get(s).size() - 1 - at;
                    if (at >= 0 && above < fewest) {
                        from = s;
                        fewest = above;
                    }
                }
                if (from >= 0) {
                    stacks.get(from).remove(stacks.get(from).size() - 1 - fewest);
                    lifted += fewest;
                }
                D.due("random take", x.take(kind), from);
            }
        }
        int boxes = 0;
        for (int s = 0; s < 6; s++) {
            for (int i = 0; i < stacks.get(s).size(); i++) {
                D.due("random stack", x.stack(s, i), stacks.get(s).get(i));
                boxes++;
            }
        }
        D.due("random count(2)", x.count(2), boxes);
        D.due("random count(3)", x.count(3), lifted);
    }
}
