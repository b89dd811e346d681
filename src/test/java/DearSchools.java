import java.util.ArrayList;
import java.util.Arrays;
import java.util.Collections;
import java.util.List;
import java.util.Random;

/**
 * Schools that are dear to search: nine lessons with much room, and some wishes that cannot hold together
 * however the other lessons stand. The proof is these wishes alone, as the other ones only shun a few slots:
 * some day has three hours or more that nobody shuns, and each other lesson has a slot beside all the rest.
 */
public final class DearSchools {
    private static final int LESSONS = 9;
    private static final int[][][] CORES = {
        {{4, 0, 1}, {5, 0, 1}},
        {{4, 0, 1}, {5, 1, 0}},
        {{6, 0, 1}, {6, 1, 0}},
        {{4, 0, 1}, {4, 1, 2}, {5, 0, 2}},
        {{6, 0, 1}, {6, 1, 2}, {6, 2, 0}},
        {{4, 0, 1}, {2, 0, 0}, {2, 1, 1}, {2, 0, 2}, {2, 1, 3}, {2, 0, 4}},
        {{3, 0, 9}, {6, 0, 1}, {6, 1, 2}, {3, 2, 10}},
    };
    private static final Random RANDOM = new Random(26);
    private static int asked;
    private static int wrong;

    public static void main(String[] args) {
        for (int run = 0; run < 400; run++) {
            wishesApart(CORES[run % CORES.length]);
            daysShort();
        }
        sixInOneSubject();
        System.out.println("dear schools: " + asked + " answers, " + wrong + " wrong");
        System.exit(wrong == 0 ? 0 : 1);
    }

    private static void is(Object due, Object got, String what) {
        asked++;
        if (!due.equals(got)) {
            wrong++;
            System.out.println(what + " answered " + got + ", due is " + due);
        }
    }

    /** The wishes of a core, by numbers of lessons that are chosen, among others. */
    private static void wishesApart(int[][] core) {
        List<Integer> names = numbers(LESSONS);
        List<int[]> wishes = new ArrayList<>();
        for (int[] wish : core) {
            int b = wish[0] >= 4 ? names.get(wish[2]) : wish[2];
            wishes.add(new int[] {wish[0], names.get(wish[1]), b});
        }
        // a fixed slot must not be shunned, nor the slots of other lessons be taken from it
        boolean isFixed = core[0][0] == 3;
        while (wishes.size() < core.length + 6) {
            int slot = RANDOM.nextInt(20);
            if (!isFixed || slot / 4 != 2) {
                boolean isTeacher = RANDOM.nextBoolean();
                wishes.add(new int[] {isTeacher ? 0 : 1, RANDOM.nextInt(isTeacher ? 6 : 4), slot});
            }
        }
        List<int[]> lessons = new ArrayList<>();
        for (int lesson = 0; lesson < LESSONS; lesson++) {
            lessons.add(new int[] {lesson % 4, RANDOM.nextInt(6), lesson / 4});
        }
        prove(lessons, wishes, core.length);
    }

    /** Five lessons of a class in one subject need all days, but none of them wants to be on one of these. */
    private static void daysShort() {
        List<int[]> lessons = new ArrayList<>();
        List<int[]> wishes = new ArrayList<>();
        int day = RANDOM.nextInt(5);
        List<Integer> names = numbers(LESSONS);
        for (int i = 0; i < LESSONS; i++) {
            lessons.add(null);
        }
        for (int i = 0; i < 5; i++) {
            lessons.set(names.get(i), new int[] {0, 0, 3});
            wishes.add(new int[] {2, names.get(i), day});
        }
        for (int i = 5; i < LESSONS; i++) {
            lessons.set(names.get(i), new int[] {1 + i % 3, 1 + RANDOM.nextInt(5), i - 5});
        }
        while (wishes.size() < 12) {
            wishes.add(new int[] {1, 1 + RANDOM.nextInt(3), RANDOM.nextInt(20)});
        }
        prove(lessons, wishes, 5);
    }

    private static List<Integer> numbers(int bound) {
        List<Integer> numbers = new ArrayList<>();
        for (int number = 0; number < bound; number++) {
            numbers.add(number);
        }
        Collections.shuffle(numbers, RANDOM);
        return numbers;
    }

    /** The first wishes of a row are the proof, in whatever order all of them are told; without any one, a table is found. */
    private static void prove(List<int[]> lessons, List<int[]> wishes, int coreLength) {
        Schoolhours x = new Schoolhours();
        for (int[] lesson : lessons) {
            x.lesson(lesson[0], lesson[1], lesson[2], Schoolhours.NONE, false);
        }
        List<Integer> order = numbers(wishes.size());
        List<Integer> due = new ArrayList<>();
        for (int i = 0; i < order.size(); i++) {
            int[] wish = wishes.get(order.get(i));
            x.wish(wish[0], wish[1], wish[2], 0);
            if (order.get(i) < coreLength) {
                due.add(i);
            }
        }
        String told = Arrays.deepToString(lessons.toArray()) + " " + Arrays.deepToString(wishes.toArray()) + " " + order;
        is(false, x.find(), told + " find()");
        is(due, proof(x), told + " proof");
        for (int wish : due) {
            x.dropWish(wish);
            is(true, x.find(), told + " find() without the wish " + wish);
            is(0, x.errors(), told + " errors() without the wish " + wish);
            x.undo();
            x.undo();
            is(-1, x.proof(), told + " proof() behind undo()");
        }
        is(false, x.find(), told + " find() with all wishes again");
        is(due, proof(x), told + " proof with all wishes again");
    }

    private static List<Integer> proof(Schoolhours x) {
        List<Integer> proof = new ArrayList<>();
        for (int place = 0; place < x.proof(); place++) {
            proof.add(x.proofAt(place));
        }
        return proof;
    }

    /** Six lessons on six days cannot be: no wish is to blame, so the proof is empty. */
    private static void sixInOneSubject() {
        Schoolhours x = new Schoolhours();
        for (int lesson = 0; lesson < LESSONS; lesson++) {
            x.lesson(lesson < 6 ? 2 : lesson % 2, lesson % 6, lesson < 6 ? 4 : lesson % 4, Schoolhours.NONE, false);
        }
        x.wish(6, 0, 8, 0);
        x.wish(4, 7, 8, 0);
        x.wish(5, 1, 6, 0);
        is(false, x.find(), "find() of six in one subject");
        is(0, x.proof(), "proof() of six in one subject");
        x.dropLesson(5);
        is(true, x.find(), "find() of five in one subject");
        is(0, x.errors(), "errors() of five in one subject");
    }
}
