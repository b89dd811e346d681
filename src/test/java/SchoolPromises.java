import java.util.concurrent.Callable;

/** Promises 1 to 25: the school, tables, gaps and moves, colours. */
public final class SchoolPromises {
    private static final Class<?> IAE = IllegalArgumentException.class;
    private static final Class<?> ISE = IllegalStateException.class;
    private static final Class<?> IOOBE = IndexOutOfBoundsException.class;
    private static final int NONE = Schoolhours.NONE;

    private static int promise;
    private static int asked;
    private static int wrong;

    public static void main(String[] args) {
        Runnable[] tests = {SchoolPromises::newObject, SchoolPromises::lesson, SchoolPromises::dropLesson,
            SchoolPromises::lessonOf, SchoolPromises::lessons, SchoolPromises::setSubjects, SchoolPromises::setRooms,
            SchoolPromises::wish, SchoolPromises::dropWish, SchoolPromises::wishOf, SchoolPromises::wishes,
            SchoolPromises::find, SchoolPromises::proof, SchoolPromises::proofAt, SchoolPromises::slotOf,
            SchoolPromises::lessonAt, SchoolPromises::roomOf, SchoolPromises::choices, SchoolPromises::move,
            SchoolPromises::holds, SchoolPromises::cost, SchoolPromises::gaps, SchoolPromises::improve,
            SchoolPromises::most, SchoolPromises::colour};
        for (int i = 0; i < tests.length; i++) {
            promise = i + 1;
            tests[i].run();
        }
        System.out.println("promises 1 to " + promise + ": " + asked + " answers, " + wrong + " wrong");
        System.exit(wrong == 0 ? 0 : 1);
    }

    private static void is(Object due, Callable<Object> call) {
        asked++;
        Object got;
        try {
            got = call.call();
        } catch (Exception e) {
            got = e.getClass();
        }
        if (!due.equals(got)) {
            wrong++;
            int line = new Throwable().getStackTrace()[1].getLineNumber();
            System.out.println("promise " + promise + ", line " + line + ": answered " + got + ", due is " + due);
        }
    }

    /** Lessons told as rows of class, teacher, subject, kind and 1 if double. */
    private static Schoolhours school(int[]... rows) {
        Schoolhours x = new Schoolhours();
        for (int[] r : rows) {
            x.lesson(r[0], r[1], r[2], r[3], r[4] == 1);
        }
        return x;
    }

    private static int[] row(int... cells) {
        return cells;
    }

    /** The slots of all lessons, as a text. */
    private static String table(Schoolhours x) {
        StringBuilder text = new StringBuilder();
        for (int lesson = 0; lesson < x.lessons(); lesson++) {
            text.append(lesson == 0 ? "" : " ").append(x.slotOf(lesson));
        }
        return text.toString();
    }

    private static void put(Schoolhours x, String text) {
        x.clearTape();
        for (char c : text.toCharArray()) {
            x.append(c, 0, 0, 0, 0);
        }
        x.read();
    }

    private static String proofOf(Schoolhours x) {
        StringBuilder text = new StringBuilder();
        for (int place = 0; place < x.proof(); place++) {
            text.append(place == 0 ? "" : " ").append(x.proofAt(place));
        }
        return text.toString();
    }

    private static void newObject() {
        Schoolhours x = new Schoolhours();
        is(0, x::lessons);
        is(0, x::wishes);
        is(NONE, x::proof);
        is(0, x::checksum);
        is(ISE, x::cost);
        is(0, x::clearTape);
        is(NONE, x::errorPosition);
        is(IOOBE, () -> x.writtenAt(0));
        is(NONE, x::undo);
        is(1, x::daysNeeded);
        is(1, x::group);
        is(480, () -> x.bell(0, false));
        is(525, () -> x.bell(0, true));
        is(200, x::schoolDays);
        is(20260907, () -> x.dateOf(0));
        for (int kind = 0; kind < 3; kind++) {
            int k = kind;
            is(3, () -> new Schoolhours().setRooms(k, 0));
        }
        for (int teacher = 0; teacher < 6; teacher++) {
            int t = teacher;
            is(63, () -> new Schoolhours().setSubjects(t, 0));
            for (int day = 0; day < 5; day++) {
                int d = day;
                is(false, () -> new Schoolhours().setIll(t, d, true));
            }
        }
        for (int one = 0; one < 8; one++) {
            for (int other = 0; other < 8; other++) {
                int a = one;
                int b = other;
                if (a != b) {
                    is(false, () -> new Schoolhours().setApart(a, b, true));
                }
            }
        }
        is(-1, () -> Schoolhours.NONE);
    }

    private static void lesson() {
        Schoolhours x = new Schoolhours();
        is(IAE, () -> x.lesson(-1, 0, 0, 0, false));
        is(IAE, () -> x.lesson(4, 0, 0, 0, false));
        is(IAE, () -> x.lesson(0, -1, 0, 0, false));
        is(IAE, () -> x.lesson(0, 6, 0, 0, false));
        is(IAE, () -> x.lesson(0, 0, -1, 0, false));
        is(IAE, () -> x.lesson(0, 0, 6, 0, false));
        is(IAE, () -> x.lesson(0, 0, 0, -2, false));
        is(IAE, () -> x.lesson(0, 0, 0, 3, false));
        is(IAE, () -> x.lesson(Integer.MIN_VALUE, Integer.MAX_VALUE, 0, 0, false));
        is(0, x::lessons);
        is(NONE, x::undo);
        x.setSubjects(2, 0b101110);
        is(IAE, () -> x.lesson(0, 2, 0, NONE, false));
        is(IAE, () -> x.lesson(0, 2, 4, NONE, false));
        is(0, () -> x.lesson(0, 2, 1, NONE, false));
        is(1, () -> x.lesson(3, 5, 5, 2, true));
        x.find();
        is(2, () -> x.lesson(0, 0, 0, 0, false));
        is(ISE, x::cost);
        for (int i = 3; i < 9; i++) {
            int due = i;
            is(due, () -> x.lesson(1, 1, 1, 1, false));
        }
        is(ISE, () -> x.lesson(0, 0, 0, 0, false));
        is(IAE, () -> x.lesson(0, 2, 0, 0, false));
        is(IAE, () -> x.lesson(0, 0, 0, 3, false));
        is(9, x::lessons);
        is(10, x::undo);
    }

    private static void dropLesson() {
        Schoolhours x = school(row(0, 0, 0, 0, 0), row(1, 1, 1, 1, 1), row(2, 2, 2, 2, 0), row(3, 3, 3, NONE, 1));
        is(IOOBE, () -> x.dropLesson(-1));
        is(IOOBE, () -> x.dropLesson(4));
        x.wish(0, 2, 2, 1);
        x.wish(2, 1, 4, 2);
        x.wish(4, 3, 0, 3);
        x.wish(6, 1, 2, 4);
        x.wish(5, 2, 1, 5);
        x.wish(1, 1, 1, 6);
        x.wish(3, 2, 3, 7);
        x.find();
        is(3, () -> x.dropLesson(1));
        is(ISE, x::cost);
        is(2, () -> x.lessonOf(1, 0));
        is(3, () -> x.lessonOf(2, 1));
        is(NONE, () -> x.lessonOf(2, 3));
        is(1, () -> x.lessonOf(2, 4));
        is(IOOBE, () -> x.lessonOf(3, 0));
        is(4, x::wishes);
        is("0 2 2 1/4 2 0 3/1 1 1 6/3 1 3 7/", () -> wishesOf(x));
        is(2, () -> x.dropLesson(0));
        is("0 2 2 1/1 1 1 6/3 0 3 7/", () -> wishesOf(x));
        is(1, () -> x.dropLesson(1));
        is(0, () -> x.dropLesson(0));
        is("0 2 2 1/1 1 1 6/", () -> wishesOf(x));
        is(IOOBE, () -> x.dropLesson(0));
    }

    private static String wishesOf(Schoolhours x) {
        StringBuilder text = new StringBuilder();
        for (int wish = 0; wish < x.wishes(); wish++) {
            text.append(x.wishOf(wish, 0)).append(' ').append(x.wishOf(wish, 1)).append(' ')
                .append(x.wishOf(wish, 2)).append(' ').append(x.wishOf(wish, 3)).append('/');
        }
        return text.toString();
    }

    private static void lessonOf() {
        Schoolhours x = school(row(3, 5, 4, 2, 1), row(1, 2, 3, NONE, 0));
        int[] due = {3, 5, 4, 2, 1, 1, 2, 3, NONE, 0};
        for (int i = 0; i < due.length; i++) {
            int at = i;
            is(due[at], () -> x.lessonOf(at / 5, at % 5));
        }
        is(IOOBE, () -> x.lessonOf(2, 0));
        is(IOOBE, () -> x.lessonOf(-1, 0));
        is(IAE, () -> x.lessonOf(0, 5));
        is(IAE, () -> x.lessonOf(0, -1));
        is(IOOBE, () -> x.lessonOf(2, 5));
        is(IOOBE, () -> x.lessonOf(Integer.MIN_VALUE, Integer.MAX_VALUE));
    }

    private static void lessons() {
        Schoolhours x = new Schoolhours();
        is(0, x::lessons);
        x.lesson(0, 0, 0, 0, false);
        x.lesson(0, 0, 0, 0, false);
        is(2, x::lessons);
        x.dropLesson(0);
        is(1, x::lessons);
        x.undo();
        is(2, x::lessons);
    }

    private static void setSubjects() {
        Schoolhours x = school(row(0, 1, 3, NONE, 0));
        x.find();
        is(IAE, () -> x.setSubjects(-1, 0));
        is(IAE, () -> x.setSubjects(6, 0));
        is(IAE, () -> x.setSubjects(0, -1));
        is(IAE, () -> x.setSubjects(0, 64));
        is(IAE, () -> x.setSubjects(1, 64));
        is(ISE, () -> x.setSubjects(1, 63 - 8));
        is(0, x::cost);
        is(63, () -> x.setSubjects(1, 8));
        is(ISE, x::cost);
        is(8, () -> x.setSubjects(1, 63));
        is(63, () -> x.setSubjects(0, 0));
        x.find();
        is(0, () -> x.setSubjects(0, 0));
        is(ISE, x::cost);
        x.dropLesson(0);
        is(63, () -> x.setSubjects(1, 0));
        is(IAE, () -> x.lesson(0, 1, 3, NONE, false));
    }

    private static void setRooms() {
        Schoolhours x = school(row(0, 0, 0, 1, 0), row(1, 1, 1, 1, 0), row(2, 2, 2, 1, 0));
        is(IAE, () -> x.setRooms(-1, 0));
        is(IAE, () -> x.setRooms(3, 0));
        is(IAE, () -> x.setRooms(0, -1));
        is(IAE, () -> x.setRooms(0, 4));
        x.find();
        is("0 0 0", () -> table(x));
        is(3, () -> x.setRooms(1, 2));
        is(ISE, x::cost);
        x.find();
        is("0 0 1", () -> table(x));
        is(2, () -> x.setRooms(1, 2));
        is(ISE, x::cost);
        is(2, () -> x.setRooms(1, 1));
        x.find();
        is("0 1 2", () -> table(x));
        is(1, () -> x.setRooms(1, 0));
        is(false, x::find);
        is(0, x::proof);
        // four lessons of a kind with three rooms, and double ones among them
        Schoolhours y = school(row(0, 0, 0, 1, 0), row(1, 1, 1, 1, 1), row(2, 2, 2, 1, 1), row(3, 3, 3, 1, 0));
        y.find();
        is("0 0 0 1", () -> table(y));
        // a full slot stays full, whatever comes at another one
        Schoolhours z = school(row(0, 0, 0, 1, 0), row(1, 1, 1, 1, 0), row(2, 2, 2, 1, 0), row(0, 3, 3, 1, 0),
            row(3, 4, 4, 1, 0));
        z.find();
        is("0 0 0 1 1", () -> table(z));
        y.setRooms(0, 0);
        y.setRooms(2, 0);
        y.find();
        is("0 0 0 1", () -> table(y));
        y.setRooms(1, 2);
        y.find();
        is("0 0 1 2", () -> table(y));
        y.dropLesson(0);
        y.lesson(0, 0, 0, 1, false);
        y.find();
        is("0 0 2 2", () -> table(y));
    }

    private static void wish() {
        Schoolhours x = school(row(0, 0, 0, 0, 0), row(1, 1, 1, 1, 0));
        int[][] outOfRange = {{-1, 0, 0, 0}, {7, 0, 0, 0}, {0, 0, 0, -1}, {0, 0, 0, 10}, {0, -1, 0, 0}, {0, 6, 0, 0},
            {0, 0, -1, 0}, {0, 0, 20, 0}, {1, -1, 0, 0}, {1, 4, 0, 0}, {1, 0, -1, 0}, {1, 0, 20, 0}, {2, 0, -1, 0},
            {2, 0, 5, 0}, {3, 0, -1, 0}, {3, 0, 20, 0}, {4, 0, 0, 0}, {5, 1, 1, 0}, {6, 1, 1, 0},
            {4, 2, 2, 0}, {2, 2, 5, 0}, {3, -1, 20, 0}, {2, 9, 0, 10}, {6, 0, 2, -1}};
        for (int[] w : outOfRange) {
            is(IAE, () -> x.wish(w[0], w[1], w[2], w[3]));
        }
        int[][] absent = {{2, 2, 4, 0}, {2, -1, 0, 9}, {3, 2, 19, 0}, {3, -1, 0, 0}, {4, 0, 2, 0}, {4, 2, 0, 0},
            {5, -1, 0, 0}, {5, 0, -1, 0}, {6, 0, 2, 0}, {6, 9, 1, 0}, {6, 2, 3, 0}};
        for (int[] w : absent) {
            is(IOOBE, () -> x.wish(w[0], w[1], w[2], w[3]));
        }
        is(0, x::wishes);
        x.find();
        int[][] good = {{0, 5, 19, 9}, {1, 3, 0, 0}, {2, 1, 4, 1}, {3, 0, 19, 2}, {4, 1, 0, 3}, {5, 0, 1, 4},
            {6, 1, 0, 5}, {0, 0, 0, 0}, {0, 0, 0, 0}, {2, 0, 0, 6}, {3, 1, 0, 7}, {4, 0, 1, 8}};
        for (int i = 0; i < good.length; i++) {
            int number = i;
            int[] w = good[i];
            is(number, () -> x.wish(w[0], w[1], w[2], w[3]));
            is(ISE, x::cost);
        }
        is(ISE, () -> x.wish(0, 0, 0, 0));
        is(ISE, () -> x.wish(4, 0, 1, 0));
        is(IOOBE, () -> x.wish(4, 0, 2, 0));
        is(IAE, () -> x.wish(4, 0, 0, 0));
        is(12, x::wishes);
        sortsOfWishes();
    }

    /** Of each sort: the first table of a double lesson and a single one with one hard wish. */
    private static void sortsOfWishes() {
        is("1 0", () -> firstWith(0, 0, 0));
        is("2 0", () -> firstWith(0, 0, 1));
        is("0 1", () -> firstWith(0, 1, 0));
        is("2 0", () -> firstWith(1, 0, 1));
        is("0 1", () -> firstWith(1, 1, 0));
        is("0 0", () -> firstWith(1, 2, 0));
        is("4 0", () -> firstWith(2, 0, 0));
        is("0 4", () -> firstWith(2, 1, 0));
        is("6 0", () -> firstWith(3, 0, 6));
        is("none", () -> firstWith(3, 0, 7));
        is("0 7", () -> firstWith(3, 1, 7));
        is("0 0", () -> firstWith(4, 0, 1));
        is("0 4", () -> firstWith(5, 0, 1));
        is("0 1", () -> firstWith(6, 0, 1));
        is("1 0", () -> firstWith(6, 1, 0));
    }

    private static String firstWith(int sort, int a, int b) {
        Schoolhours x = school(row(0, 0, 0, NONE, 1), row(1, 1, 1, NONE, 0));
        x.wish(sort, a, b, 0);
        return x.find() ? table(x) : "none";
    }

    private static void dropWish() {
        Schoolhours x = school(row(0, 0, 0, 0, 0));
        is(IOOBE, () -> x.dropWish(0));
        x.wish(3, 0, 1, 0);
        x.wish(3, 0, 2, 0);
        x.wish(3, 0, 3, 4);
        is(IOOBE, () -> x.dropWish(-1));
        is(IOOBE, () -> x.dropWish(3));
        is(false, x::find);
        is(2, () -> x.dropWish(0));
        is(NONE, x::proof);
        is("3 0 2 0/3 0 3 4/", () -> wishesOf(x));
        is(true, x::find);
        is(4, x::cost);
        is(1, () -> x.dropWish(1));
        is(ISE, x::cost);
        is(0, () -> x.dropWish(0));
        is(IOOBE, () -> x.dropWish(0));
    }

    private static void wishOf() {
        Schoolhours x = school(row(0, 0, 0, 0, 0), row(1, 1, 1, 1, 0));
        x.wish(5, 1, 0, 9);
        x.wish(0, 4, 17, 0);
        is("5 1 0 9/0 4 17 0/", () -> wishesOf(x));
        is(IOOBE, () -> x.wishOf(2, 0));
        is(IOOBE, () -> x.wishOf(-1, 0));
        is(IAE, () -> x.wishOf(1, 4));
        is(IAE, () -> x.wishOf(1, -1));
        is(IOOBE, () -> x.wishOf(2, 4));
    }

    private static void wishes() {
        Schoolhours x = school(row(0, 0, 0, 0, 0));
        is(0, x::wishes);
        x.wish(3, 0, 0, 0);
        x.wish(0, 0, 0, 0);
        is(2, x::wishes);
        x.dropLesson(0);
        is(1, x::wishes);
        x.undo();
        is(2, x::wishes);
        x.dropWish(0);
        is(1, x::wishes);
    }

    private static void find() {
        Schoolhours empty = new Schoolhours();
        is(true, empty::find);
        is(0, empty::cost);
        is(17, empty::checksum);
        is(0, empty::undo);
        is(ISE, empty::cost);
        // one class: a slot each; the same subject not on one day; a double one not at the hour 3
        Schoolhours x = school(row(0, 0, 0, NONE, 1), row(0, 1, 0, NONE, 0), row(0, 2, 1, NONE, 1),
            row(0, 3, 2, NONE, 0));
        is(true, x::find);
        is("0 4 2 5", () -> table(x));
        // find makes the first one the present one again
        x.move(3, 19);
        is("0 4 2 19", () -> table(x));
        is(true, x::find);
        is("0 4 2 5", () -> table(x));
        is(6, x::undo);
        is("0 4 2 19", () -> table(x));
        // one teacher of four classes
        Schoolhours y = school(row(0, 0, 0, 0, 0), row(1, 0, 0, 0, 1), row(2, 0, 0, 0, 1), row(3, 0, 0, 0, 0));
        y.find();
        is("0 1 4 3", () -> table(y));
        // six lessons of one subject find no six days
        Schoolhours z = new Schoolhours();
        for (int i = 0; i < 5; i++) {
            z.lesson(0, i, 0, NONE, false);
        }
        is(true, z::find);
        is("0 4 8 12 16", () -> table(z));
        z.lesson(0, 5, 0, NONE, false);
        is(false, z::find);
        is(0, z::proof);
        is(6, z::undo);
        is("0 4 8 12 16", () -> table(z));
        // a find that finds none is no change and leaves the present table away
        Schoolhours w = school(row(0, 0, 0, NONE, 0));
        w.find();
        w.wish(3, 0, 7, 0);
        w.wish(3, 0, 8, 0);
        is(false, w::find);
        is(0, w::checksum);
        is(3, w::undo);
        is(true, w::find);
        is("7", () -> table(w));
        // several lessons ahead of one, and several behind one
        Schoolhours u = school(row(0, 0, 0, NONE, 0), row(1, 1, 1, NONE, 0), row(2, 2, 2, NONE, 0),
            row(3, 3, 3, NONE, 0));
        u.wish(6, 0, 2, 0);
        u.wish(6, 1, 2, 0);
        u.wish(3, 0, 3, 0);
        u.find();
        is("3 0 4 0", () -> table(u));
        u.wish(6, 3, 2, 0);
        u.wish(3, 3, 9, 0);
        u.find();
        is("3 0 10 9", () -> table(u));
        u.wish(6, 2, 1, 0);
        is(false, u::find);
        is("1 5", () -> proofOf(u));
        u.dropWish(1);
        u.wish(6, 2, 0, 0);
        is(false, u::find);
        u.dropWish(1);
        u.dropWish(0);
        u.find();
        is("11 11 10 9", () -> table(u));
        // rooms in the second hour of a double lesson
        Schoolhours v = school(row(0, 0, 0, 0, 1), row(1, 1, 1, 0, 0), row(2, 2, 2, 0, 1));
        v.setRooms(0, 1);
        v.find();
        is("0 2 4", () -> table(v));
        longWays();
    }

    /** Schools whose search would be long if sets of lessons were tried again and again. */
    private static void longWays() {
        Schoolhours x = new Schoolhours();
        for (int i = 0; i < 9; i++) {
            x.lesson(i % 4, i % 6, i % 5, 0, i % 2 == 0);
        }
        for (int i = 0; i < 8; i++) {
            x.wish(6, i + 1, i, 0);
        }
        is(true, x::find);
        is("8 7 6 5 4 3 2 1 0", () -> table(x));
        x.wish(6, 0, 8, 0);
        is(false, x::find);
        is("0 1 2 3 4 5 6 7 8", () -> proofOf(x));
        Schoolhours y = new Schoolhours();
        for (int i = 0; i < 9; i++) {
            y.lesson(i % 4, i % 6, i % 6, 0, false);
        }
        y.setRooms(0, 1);
        for (int i = 0; i < 8; i++) {
            y.wish(2, i, i % 4, 0);
        }
        for (int i = 0; i < 4; i++) {
            y.wish(4, i * 2, i * 2 + 1, 0);
        }
        is(true, y::find);
        is(0, y::errors);
    }

    private static void proof() {
        Schoolhours x = school(row(0, 0, 0, NONE, 0), row(1, 1, 1, NONE, 0));
        is(NONE, x::proof);
        x.wish(3, 0, 4, 0);
        x.wish(4, 0, 1, 0);
        x.wish(3, 1, 0, 0);
        x.wish(3, 1, 19, 9);
        x.wish(0, 0, 0, 0);
        is(false, x::find);
        is("0 1 2", () -> proofOf(x));
        // the first one is left out if the others still hold apart
        x.wish(2, 1, 1, 0);
        is(NONE, x::proof);
        is(false, x::find);
        is("0 1 5", () -> proofOf(x));
        is(7, x::undo);
        is(NONE, x::proof);
        x.find();
        is(3, x::proof);
        x.setBells(0, 420, 30, 0);
        x.holiday(20260907, 20260907);
        x.setYear(20260907);
        x.append('0', 0, 0, 0, 0);
        is(IAE, x::read);
        is(IOOBE, () -> x.dropWish(9));
        is(3, x::proof);
        x.setIll(0, 0, false);
        is(NONE, x::proof);
        x.find();
        x.setApart(0, 1, false);
        is(NONE, x::proof);
        x.find();
        is(3, x::proof);
        x.dropWish(1);
        is(NONE, x::proof);
        is(true, x::find);
        is(NONE, x::proof);
        // without hard wishes the proof is empty; it stays when there is nothing to undo
        Schoolhours y = new Schoolhours();
        y.lesson(0, 0, 0, 0, false);
        y.setRooms(0, 0);
        for (int i = 0; i < 20; i++) {
            y.setRooms(0, 0);
        }
        for (int i = 0; i < 20; i++) {
            y.undo();
        }
        is(false, y::find);
        is(0, y::proof);
        is(NONE, y::undo);
        is(0, y::proof);
    }

    private static void proofAt() {
        Schoolhours x = school(row(0, 0, 0, NONE, 0));
        is(IOOBE, () -> x.proofAt(0));
        x.wish(0, 3, 0, 0);
        x.wish(3, 0, 4, 0);
        x.wish(3, 0, 5, 3);
        x.wish(2, 0, 1, 0);
        x.find();
        is(2, x::proof);
        is(1, () -> x.proofAt(0));
        is(3, () -> x.proofAt(1));
        is(IOOBE, () -> x.proofAt(2));
        is(IOOBE, () -> x.proofAt(-1));
        x.dropWish(3);
        is(IOOBE, () -> x.proofAt(0));
    }

    private static void slotOf() {
        Schoolhours x = school(row(0, 0, 0, NONE, 0), row(0, 1, 0, NONE, 1));
        is(IOOBE, () -> x.slotOf(2));
        is(IOOBE, () -> x.slotOf(-1));
        is(ISE, () -> x.slotOf(1));
        x.find();
        is(0, () -> x.slotOf(0));
        is(4, () -> x.slotOf(1));
        is(IOOBE, () -> x.slotOf(2));
        is(IOOBE, () -> x.slotOf(Integer.MIN_VALUE));
    }

    private static void lessonAt() {
        Schoolhours x = school(row(0, 5, 0, NONE, 1), row(3, 5, 1, NONE, 0));
        is(IAE, () -> x.lessonAt(true, 6, 0));
        is(IAE, () -> x.lessonAt(false, 4, 0));
        is(IAE, () -> x.lessonAt(true, -1, 0));
        is(IAE, () -> x.lessonAt(false, 0, 20));
        is(IAE, () -> x.lessonAt(true, 0, -1));
        is(ISE, () -> x.lessonAt(true, 5, 0));
        x.find();
        is(0, () -> x.lessonAt(true, 5, 0));
        is(0, () -> x.lessonAt(true, 5, 1));
        is(1, () -> x.lessonAt(true, 5, 2));
        is(NONE, () -> x.lessonAt(true, 5, 3));
        is(0, () -> x.lessonAt(false, 0, 1));
        is(NONE, () -> x.lessonAt(false, 0, 2));
        is(1, () -> x.lessonAt(false, 3, 2));
        is(NONE, () -> x.lessonAt(true, 4, 0));
        is(NONE, () -> x.lessonAt(false, 3, 19));
    }

    private static void roomOf() {
        Schoolhours x = school(row(0, 0, 0, 1, 0), row(1, 1, 1, 1, 1), row(2, 2, 2, 1, 0), row(3, 3, 3, NONE, 0),
            row(3, 4, 4, 2, 0), row(0, 5, 5, 1, 0));
        is(IOOBE, () -> x.roomOf(6));
        is(IOOBE, () -> x.roomOf(-1));
        is(ISE, () -> x.roomOf(0));
        put(x, "0m1;1m0;2m1;3m0;4m1;5m2;");
        // at slot 0 lesson 1 gets 0, which it still has at slot 1, when lessons 0 and 2 come
        is("1 0 2 -1 0 0", () -> rooms(x));
        put(x, "0m0;1m1;2m1;3m0;4m1;5m2;");
        // lesson 5 meets lesson 1 in its second hour
        is("0 0 1 -1 0 1", () -> rooms(x));
        is(IOOBE, () -> x.roomOf(6));
    }

    private static String rooms(Schoolhours x) {
        StringBuilder text = new StringBuilder();
        for (int lesson = 0; lesson < x.lessons(); lesson++) {
            text.append(lesson == 0 ? "" : " ").append(x.roomOf(lesson));
        }
        return text.toString();
    }

    private static void choices() {
        Schoolhours x = school(row(0, 0, 0, 0, 0), row(0, 1, 0, NONE, 0), row(1, 0, 1, NONE, 1), row(2, 2, 2, 0, 0));
        x.setRooms(0, 1);
        is(IOOBE, () -> x.choices(4));
        is(IOOBE, () -> x.choices(-1));
        is(ISE, () -> x.choices(0));
        put(x, "0m0;1t0;2w0;3h0;");
        // lesson 0: 20 slots, without its own, the day of lesson 1, two of its teacher, one of its room
        is(20 - 1 - 4 - 2 - 1, () -> x.choices(0));
        // lesson 2: 15 begins, without its own, and slot 0 (one begin) of its teacher
        is(15 - 1 - 1, () -> x.choices(2));
        put(x, "0m1;1t0;2w0;3h0;");
        is(15 - 1 - 2, () -> x.choices(2));
        x.wish(6, 0, 2, 0);
        x.wish(1, 0, 4, 0);
        x.wish(3, 3, 13, 5);
        put(x, "0m1;1t1;2w0;3h0;");
        // lesson 0 is ahead of lesson 2: Monday alone is left beside its own slot
        is(3, () -> x.choices(0));
        is(18, () -> x.choices(3));
    }

    private static void move() {
        Schoolhours x = school(row(0, 0, 0, NONE, 0), row(0, 1, 0, NONE, 0), row(1, 0, 1, NONE, 1));
        is(IOOBE, () -> x.move(3, 0));
        is(IOOBE, () -> x.move(-1, 20));
        is(IAE, () -> x.move(0, 20));
        is(IAE, () -> x.move(0, -1));
        is(ISE, () -> x.move(0, 0));
        x.find();
        is("0 4 1", () -> table(x));
        is(IAE, () -> x.move(0, 20));
        is(ISE, () -> x.move(0, 2));
        is(ISE, () -> x.move(0, 5));
        is(ISE, () -> x.move(2, 3));
        is(ISE, () -> x.move(2, 0));
        is(0, () -> x.move(0, 3));
        is("3 4 1", () -> table(x));
        is(1, () -> x.move(2, 0));
        // to the slot at which it is: right, so a change too
        is(1, () -> x.move(2, 0));
        is(6, x::undo);
        is("3 4 0", () -> table(x));
        is(5, x::undo);
        is("3 4 1", () -> table(x));
        x.wish(3, 0, 3, 0);
        put(x, "0m3;1t0;2m1;");
        is(ISE, () -> x.move(0, 2));
        is(ISE, () -> x.move(0, 0));
    }

    private static void holds() {
        Schoolhours x = school(row(0, 0, 0, NONE, 1), row(1, 1, 1, NONE, 0));
        int[][] told = {{0, 0, 1, 1}, {1, 0, 2, 1}, {2, 0, 0, 1}, {3, 1, 4, 1}, {4, 0, 1, 1}, {5, 0, 1, 1},
            {6, 0, 1, 1}, {6, 1, 0, 1}, {0, 1, 4, 9}, {1, 1, 5, 9}, {2, 1, 0, 0}, {3, 0, 0, 0}};
        for (int[] w : told) {
            x.wish(w[0], w[1], w[2], w[3]);
        }
        is(IOOBE, () -> x.holds(12));
        is(IOOBE, () -> x.holds(-1));
        is(ISE, () -> x.holds(0));
        put(x, "0m0;1t0;");
        boolean[] due = {false, true, false, true, false, true, true, false, false, true, true, true};
        for (int i = 0; i < due.length; i++) {
            int wish = i;
            is(due[wish], () -> x.holds(wish));
        }
        // lessons that begin at one slot are in no order
        Schoolhours y = school(row(0, 0, 0, NONE, 0), row(1, 1, 1, NONE, 0));
        y.wish(6, 0, 1, 1);
        y.wish(6, 1, 0, 1);
        y.wish(4, 0, 1, 1);
        y.find();
        is(false, () -> y.holds(0));
        is(false, () -> y.holds(1));
        is(true, () -> y.holds(2));
    }

    private static void cost() {
        Schoolhours x = school(row(0, 0, 0, NONE, 0), row(0, 1, 1, NONE, 0), row(1, 0, 2, NONE, 0));
        is(ISE, x::cost);
        put(x, "0m0;1m3;2m2;");
        // class 0 has two gaps, teacher 0 one
        is(3, x::cost);
        x.wish(3, 0, 0, 9);
        x.wish(3, 1, 0, 7);
        x.wish(4, 0, 1, 2);
        x.wish(2, 2, 0, 4);
        x.wish(3, 0, 0, 0);
        is(ISE, x::cost);
        put(x, "0m0;1m3;2m2;");
        is(3 + 7 + 4, x::cost);
    }

    private static void gaps() {
        Schoolhours x = school(row(0, 0, 0, NONE, 0), row(0, 1, 1, NONE, 0), row(0, 0, 2, NONE, 1));
        is(IAE, () -> x.gaps(true, 6));
        is(IAE, () -> x.gaps(false, 4));
        is(IAE, () -> x.gaps(false, -1));
        is(IAE, () -> x.gaps(true, -1));
        is(ISE, () -> x.gaps(false, 0));
        put(x, "0m0;1m3;2t0;");
        is(2, () -> x.gaps(false, 0));
        is(0, () -> x.gaps(true, 0));
        put(x, "0m0;1m1;2m2;");
        is(0, () -> x.gaps(false, 0));
        is(1, () -> x.gaps(true, 0));
        is(0, () -> x.gaps(true, 1));
        // hours of two days make no gap
        put(x, "0m3;1t1;2t2;");
        is(0, () -> x.gaps(false, 0));
        put(x, "0f0;1f3;2t2;");
        is(2, () -> x.gaps(false, 0));
        is(0, () -> x.gaps(false, 3));
        is(0, () -> x.gaps(true, 5));
    }

    private static void improve() {
        Schoolhours x = school(row(0, 0, 0, NONE, 0), row(0, 1, 1, NONE, 0));
        is(ISE, x::improve);
        put(x, "0m0;1m3;");
        // cost 2; the first lesson can go beside the other or to another day: slot 2 is the least one
        is(2, x::improve);
        is("2 3", () -> table(x));
        is(0, x::improve);
        is(3, x::undo);
        is("0 3", () -> table(x));
        // an exchange of two lessons alone helps: both hold their slots in fear of others
        Schoolhours y = school(row(0, 0, 0, NONE, 0), row(0, 1, 1, NONE, 0));
        y.wish(3, 0, 1, 5);
        y.wish(3, 1, 0, 5);
        put(y, "0m0;1m1;");
        is(10, y::cost);
        is(10, y::improve);
        is("1 0", () -> table(y));
        // the least cost is sought, not the first one that is less
        Schoolhours z = school(row(0, 0, 0, NONE, 0), row(1, 1, 1, NONE, 0));
        z.wish(3, 0, 9, 2);
        z.wish(3, 1, 9, 3);
        put(z, "0m0;1m0;");
        is(3, z::improve);
        is("0 9", () -> table(z));
        is(2, z::improve);
        is("9 9", () -> table(z));
        // hard wishes hold behind a move
        Schoolhours w = school(row(0, 0, 0, NONE, 0), row(0, 1, 1, NONE, 0));
        w.wish(3, 0, 0, 0);
        w.wish(3, 1, 3, 0);
        put(w, "0m0;1m3;");
        is(2, w::cost);
        is(0, w::improve);
        is(4, w::undo);
        // a school without a gap
        Schoolhours v = new Schoolhours();
        v.find();
        is(0, v::improve);
    }

    private static void most() {
        is(0, () -> new Schoolhours().most());
        is(1, () -> school(row(0, 0, 0, 0, 1)).most());
        is(2, () -> school(row(0, 0, 0, 0, 1), row(0, 1, 0, 0, 0)).most());
        is(3, () -> school(row(0, 5, 0, 0, 1), row(1, 5, 0, 0, 0), row(2, 5, 0, 0, 0), row(2, 4, 0, 0, 0)).most());
        Schoolhours x = new Schoolhours();
        for (int i = 0; i < 9; i++) {
            x.lesson(3, i % 6, 0, 0, true);
        }
        is(9, x::most);
        x.dropLesson(0);
        is(8, x::most);
    }

    private static void colour() {
        Schoolhours x = school(row(0, 0, 0, 0, 0), row(1, 1, 0, 0, 0), row(0, 1, 0, 0, 1), row(1, 0, 1, 1, 0));
        is(IOOBE, () -> x.colour(4));
        is(IOOBE, () -> x.colour(-1));
        is("0 0 1 1", () -> coloursOf(x));
        // lesson 2 of class 1 and teacher 0: class 1 is free of 1, teacher 0 of 1, so no way is needed
        Schoolhours y = school(row(0, 0, 0, 0, 0), row(1, 1, 0, 0, 0), row(1, 0, 0, 0, 0));
        is("0 0 1", () -> coloursOf(y));
        // teacher 0 has 0; class 1 has 0 and 1 by other teachers ...
        Schoolhours z = school(row(0, 0, 0, 0, 0), row(0, 1, 0, 0, 0), row(1, 1, 0, 0, 0), row(1, 0, 0, 0, 0));
        is("0 1 0 1", () -> coloursOf(z));
        // class 0: teachers 0, 1 get 0, 1; class 1 with teacher 2 gets 0; then class 1 with teacher 1 gets 0? it
        // has not 0 free, and teacher 1 not 1: p is 1, q is 0; teacher 1 leaves 1 by lesson 1 to class 0,
        // which leaves 0 by lesson 0 to teacher 0; both are turned
        Schoolhours w = school(row(0, 0, 0, 0, 0), row(0, 1, 0, 0, 0), row(1, 2, 0, 0, 0), row(1, 1, 0, 0, 0));
        is("1 0 0 1", () -> coloursOf(w));
        is(IOOBE, () -> new Schoolhours().colour(0));
    }

    private static String coloursOf(Schoolhours x) {
        StringBuilder text = new StringBuilder();
        for (int lesson = 0; lesson < x.lessons(); lesson++) {
            text.append(lesson == 0 ? "" : " ").append(x.colour(lesson));
        }
        return text.toString();
    }
}
