import java.util.List;
import java.util.concurrent.Callable;
import java.util.function.Supplier;

/** The promises 1 to 25 of the document, sentence by sentence: the school, tables, gaps and moves, colours. */
public final class SchoolSentences {
    private static final int NONE = Schoolhours.NONE;
    private static final Class<?> IAE = Sentences.IAE;
    private static final Class<?> ISE = Sentences.ISE;
    private static final Class<?> IOOBE = Sentences.IOOBE;
    private static final String NINE = "0000/2 0111 1022 111- 2230 2330 3441 355-/2 0500";
    private static final String IN_RANGE = "Throws `IllegalArgumentException` if a number is out of range";
    private static final String NO_LESSON = "Throws `IndexOutOfBoundsException` if there is no such lesson";
    private static final String NO_WISH = "Throws `IndexOutOfBoundsException` if there is no such wish";
    private static final String NO_WHAT = "Throws `IllegalArgumentException` if what is out of range";
    private static final String NO_SLOT = "Throws `IllegalArgumentException` if slot is out of range";
    private static final String A_LESSON = "- `lesson`: number of a lesson";
    private static final String A_WISH = "- `wish`: number of a wish";
    private static final String HOW_MANY = "Returns how many there are.";

    public static void main(String[] args) {
        newObject();
        lesson();
        dropLesson();
        lessonOf();
        lessons();
        setSubjects();
        setRooms();
        wish();
        wishNumbers();
        dropWish();
        wishOf();
        wishes();
        find();
        proof();
        proofAt();
        slotOf();
        lessonAt();
        roomOf();
        choices();
        move();
        holds();
        cost();
        gaps();
        improve();
        most();
        colour();
        Sentences.end();
    }

    private static void sentence(String words, Runnable test) {
        Sentences.sentence(words, test);
    }

    private static void is(Object due, Callable<Object> call) {
        Sentences.is(due, call);
    }

    private static void noTable(Sentences.Call call) {
        Sentences.asksTable(Sentences.WITHOUT_TABLE, call);
    }

    // ---- The school.

    private static void newObject() {
        Sentences.part("Promise 1");
        sentence("Creates a school without lessons, wishes and a table, with an empty tape; nobody is ill, no exams are"
            + " apart, nothing is written.", () -> {
                is(0, () -> new Schoolhours().lessons());
                is(0, () -> new Schoolhours().wishes());
                is(0, () -> new Schoolhours().checksum());
                is(ISE, () -> new Schoolhours().cost());
                is(0, () -> new Schoolhours().clearTape());
                is(0, () -> new Schoolhours().read());
                is(NONE, () -> new Schoolhours().undo());
                is(NONE, () -> new Schoolhours().proof());
                is(NONE, () -> new Schoolhours().errorPosition());
                for (int place = 0; place < 30; place++) {
                    int teacher = place / 5;
                    int day = place % 5;
                    is(false, () -> new Schoolhours().setIll(teacher, day, true));
                }
                for (int place = 0; place < 64; place++) {
                    int one = place / 8;
                    int other = place % 8;
                    is(one == other ? IAE : false, () -> new Schoolhours().setApart(one, other, true));
                }
                is("00000000", () -> Schools.examDays(new Schoolhours()));
                is(IOOBE, () -> new Schoolhours().writtenAt(0));
                is(Seen.look(2, new Schoolhours()), () -> Seen.look(2, new Schoolhours()));
            });
    }

    private static void lesson() {
        Sentences.part("Promise 2");
        sentence("Adds a lesson.", () -> {
            Schoolhours x = Schools.school("321-");
            is(1, () -> x.lesson(1, 2, 3, 0, true));
            is("321- 1230/2", () -> Schools.lessons(x));
            is(1, x::undo);
            is("321-", () -> Schools.lessons(x));
            leavesTheRest(Schools::some, y -> y.lesson(3, 5, 5, 2, true));
            leavesTheRest(Schools::stuck, y -> y.lesson(3, 5, 5, NONE, false));
        });
        sentence("- `group`: 0 to 3, a class", () -> {
            within(0, 3, 0, (x, group) -> x.lesson(group, 0, 0, 0, false));
            Sentences.beyond(IAE, 0, 3, (x, group) -> x.lesson(group, 0, 0, 0, false));
        });
        sentence("- `teacher`: 0 to 5", () -> {
            within(0, 5, 1, (x, teacher) -> x.lesson(0, teacher, 0, 0, false));
            Sentences.beyond(IAE, 0, 5, (x, teacher) -> x.lesson(0, teacher, 0, 0, false));
        });
        sentence("- `subject`: 0 to 5", () -> {
            within(0, 5, 2, (x, subject) -> x.lesson(0, 0, subject, 0, false));
            Sentences.beyond(IAE, 0, 5, (x, subject) -> x.lesson(0, 0, subject, 0, false));
        });
        sentence("- `kind`: 0 to 2, or NONE", () -> {
            within(-1, 2, 3, (x, kind) -> x.lesson(0, 0, 0, kind, false));
            Sentences.beyond(IAE, -1, 2, (x, kind) -> x.lesson(0, 0, 0, kind, false));
        });
        sentence("- `isDouble`: whether it is double", () -> {
            within(0, 1, 4, (x, isDouble) -> x.lesson(0, 0, 0, 0, isDouble == 1));
            is(15, () -> choicesOf("000-/2") + 1);
            is(20, () -> choicesOf("000-") + 1);
        });
        sentence("Returns its number.", () -> {
            Schoolhours x = new Schoolhours();
            for (int number = 0; number < 9; number++) {
                int due = number;
                is(due, () -> x.lesson(due % 4, due % 6, due % 5, due % 3, due % 2 == 0));
            }
            x.dropLesson(0);
            is(8, () -> x.lesson(0, 0, 0, 0, false));
            x.undo();
            x.undo();
            x.undo();
            is(8, () -> x.lesson(0, 0, 0, 0, false));
        });
        sentence("Throws `IllegalArgumentException` if a number is out of range, or the teacher cannot teach the subject",
            () -> {
                // full: the teacher 5 can teach 0, 3 and 5 alone, and there are 9 lessons already
                for (int subject : new int[] {1, 2, 4}) {
                    Sentences.refused(IAE, Schools::full, x -> x.lesson(0, 5, subject, 0, false));
                }
                Sentences.refused(IAE, Schools::full, x -> x.lesson(4, 5, 0, 0, false));
                Schoolhours x = new Schoolhours();
                x.setSubjects(5, 0);
                is(IAE, () -> x.lesson(0, 5, 5, 0, false));
                is(0, () -> x.lesson(0, 4, 5, 0, false));
            });
        sentence("Throws `IllegalStateException` if there are 9", () -> {
            Sentences.refused(ISE, Schools::full, x -> x.lesson(0, 0, 0, NONE, false));
            Schoolhours x = Schools.school(NINE);
            is(ISE, () -> x.lesson(3, 5, 5, 2, true));
            x.dropLesson(8);
            is(8, () -> x.lesson(3, 5, 5, 2, true));
        });
    }

    /** All numbers of a range are taken by a new school, and told again by the lesson. */
    private static void within(int least, int greatest, int what, Sentences.CallWith call) {
        for (int i = least; i <= greatest; i++) {
            int number = i;
            Schoolhours x = new Schoolhours();
            is(0, () -> call.on(x, number));
            is(number, () -> x.lessonOf(0, what));
            is(true, x::find);
        }
    }

    private static int choicesOf(String lesson) {
        Schoolhours x = Schools.school(lesson);
        x.find();
        return x.choices(0);
    }

    private static void dropLesson() {
        Sentences.part("Promise 3");
        sentence("Drops a lesson.", () -> {
            Schoolhours x = Schools.school("000- 111- 222-");
            x.dropLesson(1);
            is("000- 222-", () -> Schools.lessons(x));
            is(3, x::undo);
            is("000- 111- 222-", () -> Schools.lessons(x));
            // no wish names lesson 3, so twelve are left
            leavesTheRest(Schools::full, y -> y.dropLesson(3));
            leavesTheRest(Schools::full, y -> y.dropLesson(8));
            leavesTheRest(Schools::some, y -> y.dropLesson(0));
            leavesTheRest(Schools::stuck, y -> y.dropLesson(1));
        });
        sentence(A_LESSON, () -> {
            for (int i = 0; i < 9; i++) {
                int lesson = i;
                is(8, () -> Schools.school(NINE).dropLesson(lesson));
            }
        });
        sentence("Returns how many are left.", () -> {
            Schoolhours x = Schools.school(NINE);
            for (int left = 8; left >= 0; left--) {
                int due = left;
                is(due, () -> x.dropLesson(due / 2));
                is(due, x::lessons);
            }
        });
        sentence(NO_LESSON, () -> {
            Sentences.noLesson((x, lesson) -> x.dropLesson(lesson));
            Schoolhours x = Schools.school("000-");
            x.dropLesson(0);
            is(IOOBE, () -> x.dropLesson(0));
            // of a wish that went ahead nothing is left
            Schoolhours y = Schools.wish(Schools.school("000- 111-"), 3, 0, 1, 0, 3, 1, 2, 0);
            y.dropWish(1);
            is(1, () -> y.dropLesson(1));
            is("3 0 1 0", () -> Schools.wishes(y));
        });
    }

    /** Behind a change of lessons or wishes all else is as it was told; the table goes. */
    private static void leavesTheRest(Supplier<Schoolhours> made, Sentences.Call call) {
        Schoolhours x = made.get();
        is(true, () -> call.on(x) != null);
        x.clearTape();
        Schoolhours same = made.get();
        same.setRooms(2, 3);
        same.clearTape();
        is(Seen.look(3, same), () -> Seen.look(3, x));
    }

    private static void lessonOf() {
        Sentences.part("Promise 4");
        sentence("Tells about a lesson.", () -> is(NINE, () -> Schools.lessons(Schools.school(NINE))));
        sentence(A_LESSON, () -> {
            Schoolhours x = Schools.school(NINE);
            is("008", () -> "" + x.lessonOf(0, 0) + x.lessonOf(8, 0) + (x.lessons() - 1));
        });
        sentence("- `what`: 0 its class, 1 its teacher, 2 its subject, 3 its kind of room or NONE, 4 1 if it is double,"
            + " else 0", () -> {
                Schoolhours x = Schools.school("3542/2 123-");
                int[] due = {3, 5, 4, 2, 1, 1, 2, 3, NONE, 0};
                for (int i = 0; i < due.length; i++) {
                    int place = i;
                    is(due[place], () -> x.lessonOf(place / 5, place % 5));
                }
            });
        sentence("Returns what is asked.", () -> {
            for (int place = 0; place < 4 * 6 * 6; place++) {
                int[] row = {place % 4, place / 4 % 6, place / 24, place % 3};
                Schoolhours x = new Schoolhours();
                x.lesson(row[0], row[1], row[2], row[3], place % 5 == 0);
                for (int i = 0; i < 4; i++) {
                    int what = i;
                    is(row[what], () -> x.lessonOf(0, what));
                }
            }
        });
        sentence(NO_LESSON, () -> {
            Sentences.noLesson((x, lesson) -> x.lessonOf(lesson, 0));
            Sentences.noLesson((x, lesson) -> x.lessonOf(lesson, 5));
            Sentences.noLesson((x, lesson) -> x.lessonOf(lesson, -1));
        });
        sentence(NO_WHAT, () -> {
            for (int what : Sentences.beyond(0, 4)) {
                Sentences.refused(IAE, Sentences.WITH_TABLE, x -> x.lessonOf(0, what));
                Sentences.refused(IAE, Schools::full, x -> x.lessonOf(8, what));
            }
        });
    }

    private static void lessons() {
        Sentences.part("Promise 5");
        sentence("Counts the lessons.", () -> {
            Schoolhours x = new Schoolhours();
            for (int i = 0; i < 9; i++) {
                int due = i;
                is(due, x::lessons);
                x.lesson(i % 4, 0, 0, 0, false);
            }
            is(9, x::lessons);
            x.lessons();
            is(8, x::undo);
            is(8, x::lessons);
        });
        sentence(HOW_MANY, () -> {
            is(0, () -> new Schoolhours().lessons());
            is(9, () -> Schools.full().lessons());
            is(5, () -> Schools.some().lessons());
        });
    }

    private static void setSubjects() {
        Sentences.part("Promise 6");
        sentence("Sets the subjects that a teacher can teach.", () -> {
            Schoolhours x = new Schoolhours();
            x.setSubjects(2, 0b010010);
            for (int i = 0; i < 6; i++) {
                int subject = i;
                is(subject == 1 || subject == 4 ? "yes" : IAE,
                    () -> x.lesson(0, 2, subject, 0, false) >= 0 ? "yes" : "");
            }
            is(63, () -> x.setSubjects(3, 63));
        });
        sentence("- `teacher`: 0 to 5", () -> {
            for (int i = 0; i < 6; i++) {
                int teacher = i;
                is(63, () -> new Schoolhours().setSubjects(teacher, 1));
            }
            Sentences.beyond(IAE, 0, 5, (x, teacher) -> x.setSubjects(teacher, 63));
        });
        sentence("- `subjects`: a set, 0 to 63", () -> {
            Schoolhours x = new Schoolhours();
            int before = 63;
            for (int i = 0; i < 64; i++) {
                int set = i;
                int due = before;
                is(due, () -> x.setSubjects(5, set));
                before = set;
            }
            Sentences.beyond(IAE, 0, 63, (y, set) -> y.setSubjects(5, set));
            Sentences.beyond(IAE, 0, 63, (y, set) -> y.setSubjects(0, set));
        });
        sentence("Returns the set before.", () -> {
            Schoolhours x = new Schoolhours();
            is(63, () -> x.setSubjects(0, 0));
            is(0, () -> x.setSubjects(0, 42));
            is(42, () -> x.setSubjects(0, 42));
            is(42, () -> x.setSubjects(0, 63));
            is(63, () -> x.setSubjects(1, 63));
            x.undo();
            x.undo();
            is(42, () -> x.setSubjects(0, 63));
        });
        sentence(IN_RANGE, () -> {
            // also if a lesson of the teacher is in another subject
            Sentences.refused(IAE, Schools::full, x -> x.setSubjects(0, 64));
            Sentences.refused(IAE, Schools::full, x -> x.setSubjects(0, -64));
            Sentences.refused(IAE, Schools::full, x -> x.setSubjects(-1, -1));
        });
        sentence("Throws `IllegalStateException` if a lesson of the teacher is in another subject", () -> {
            Sentences.refused(ISE, Schools::full, x -> x.setSubjects(0, 0));
            Sentences.refused(ISE, Schools::full, x -> x.setSubjects(5, 0b100000));
            Sentences.refused(ISE, Schools::full, x -> x.setSubjects(5, 0b000001));
            is(0b101001, () -> Schools.full().setSubjects(5, 0b100001));
            for (int place = 0; place < 6 * 64; place++) {
                int subject = place % 6;
                int set = place / 6;
                Schoolhours x = Schools.school("03S- 14S-".replace("S", "" + subject));
                is((set >> subject & 1) == 1 ? 63 : ISE, () -> x.setSubjects(3, set));
                is(63, () -> x.setSubjects(5, set));
                x.dropLesson(0);
                is(true, () -> x.setSubjects(3, set) >= 0);
            }
        });
    }

    private static void setRooms() {
        Sentences.part("Promise 7");
        sentence("Sets how many rooms of a kind there are.", () -> {
            for (int rooms = 0; rooms <= 3; rooms++) {
                Schoolhours x = Schools.school("0001 1111 2221 3330");
                x.setRooms(1, rooms);
                String[] due = {"none", "0 1 2 0", "0 0 1 0", "0 0 0 0"};
                is(due[rooms], () -> Schools.firstTable(x));
            }
        });
        sentence("- `kind`: 0 to 2", () -> {
            for (int i = 0; i < 3; i++) {
                int kind = i;
                is(3, () -> new Schoolhours().setRooms(kind, 1));
            }
            Sentences.beyond(IAE, 0, 2, (x, kind) -> x.setRooms(kind, 3));
        });
        sentence("- `rooms`: 0 to 3", () -> {
            for (int i = 0; i <= 3; i++) {
                int rooms = i;
                Schoolhours x = new Schoolhours();
                is(3, () -> x.setRooms(2, rooms));
                is(rooms, () -> x.setRooms(2, 0));
            }
            Sentences.beyond(IAE, 0, 3, (x, rooms) -> x.setRooms(2, rooms));
        });
        sentence("Returns how many there were.", () -> {
            Schoolhours x = new Schoolhours();
            is(3, () -> x.setRooms(0, 1));
            is(3, () -> x.setRooms(1, 0));
            is(1, () -> x.setRooms(0, 1));
            is(0, () -> x.setRooms(1, 2));
            x.undo();
            is(0, () -> x.setRooms(1, 0));
            is(3, () -> x.setRooms(2, 0));
        });
        sentence(IN_RANGE, () -> {
            Sentences.refused(IAE, Sentences.ALL_SCHOOLS, x -> x.setRooms(3, 4));
            Sentences.refused(IAE, Sentences.ALL_SCHOOLS, x -> x.setRooms(-1, -1));
        });
    }

    private static void wish() {
        Sentences.part("Promise 8");
        sentence("Adds a wish.", () -> {
            Schoolhours x = Schools.school("000- 111-");
            x.wish(5, 1, 0, 4);
            x.wish(0, 5, 19, 0);
            is("5 1 0 4, 0 5 19 0", () -> Schools.wishes(x));
            is(3, x::undo);
            is("5 1 0 4", () -> Schools.wishes(x));
            leavesTheRest(Schools::some, y -> y.wish(6, 4, 3, 0));
            leavesTheRest(Schools::stuck, y -> y.wish(0, 5, 19, 9));
        });
        sentence("- `sort`: 0 to 6", () -> {
            for (int i = 0; i <= 6; i++) {
                int sort = i;
                is(0, () -> Schools.school("000- 111-").wish(sort, 0, 1, 0));
            }
            Sentences.beyond(IAE, 0, 6, (x, sort) -> x.wish(sort, 0, 1, 0));
        });
        sentence("- `a`: a teacher, a class, or a lesson, by its sort", () -> {
            allWishes(0, 6, true);
            allWishes(1, 4, true);
            for (int sort = 2; sort <= 6; sort++) {
                allWishes(sort, 9, true);
            }
            Sentences.beyond(IAE, 0, 5, (x, a) -> x.wish(0, a, 0, 0));
            Sentences.beyond(IAE, 0, 3, (x, a) -> x.wish(1, a, 0, 0));
            Sentences.noLesson((x, a) -> x.wish(2, a, 0, 0));
            Sentences.noLesson((x, a) -> x.wish(3, a, 0, 0));
        });
        sentence("- `b`: a slot (0 to 19), a day (0 to 4), or another lesson than a, by its sort", () -> {
            allWishes(0, 20, false);
            allWishes(1, 20, false);
            allWishes(2, 5, false);
            allWishes(3, 20, false);
            for (int sort = 4; sort <= 6; sort++) {
                allWishes(sort, 9, false);
            }
            Sentences.beyond(IAE, 0, 19, (x, b) -> x.wish(0, 0, b, 0));
            Sentences.beyond(IAE, 0, 19, (x, b) -> x.wish(1, 0, b, 0));
            Sentences.beyond(IAE, 0, 4, (x, b) -> x.wish(2, 0, b, 0));
            Sentences.beyond(IAE, 0, 19, (x, b) -> x.wish(3, 0, b, 0));
        });
    }

    /** All numbers of a, or of b, are taken by a school with nine lessons. */
    private static void allWishes(int sort, int total, boolean isA) {
        for (int i = 0; i < total; i++) {
            int a = isA ? i : 0;
            int b = isA ? sort >= 4 && i == 1 ? 2 : 1 : i;
            if (sort < 4 || a != b) {
                Schoolhours x = Schools.school(NINE);
                is(0, () -> x.wish(sort, a, b, 7));
                is(sort + " " + a + " " + b + " 7", () -> Schools.wishes(x));
            }
        }
    }

    private static void wishNumbers() {
        sentence("- `weight`: 0 to 9", () -> {
            for (int i = 0; i <= 9; i++) {
                int weight = i;
                Schoolhours x = new Schoolhours();
                is(0, () -> x.wish(0, 0, 0, weight));
                is(weight, () -> x.wishOf(0, 3));
            }
            Sentences.beyond(IAE, 0, 9, (x, weight) -> x.wish(0, 0, 0, weight));
        });
        sentence("Returns its number.", () -> {
            Schoolhours x = new Schoolhours();
            for (int i = 0; i < 12; i++) {
                int number = i;
                is(number, () -> x.wish(0, 0, 0, 0));
            }
            x.dropWish(3);
            is(11, () -> x.wish(1, 0, 0, 0));
        });
        sentence("Throws `IllegalArgumentException` if sort, weight, a teacher, a class, a slot or a day is out of range,"
            + " or a lesson is told twice", () -> {
                List<Sentences.Call> calls = List.of(x -> x.wish(7, 0, 0, 0), x -> x.wish(-1, 0, 0, 0),
                    x -> x.wish(0, 0, 0, 10), x -> x.wish(6, 0, 1, -1), x -> x.wish(0, 6, 0, 0), x -> x.wish(1, 4, 0, 0),
                    x -> x.wish(0, 0, 20, 0), x -> x.wish(1, 0, -1, 0), x -> x.wish(3, 0, 20, 0), x -> x.wish(2, 0, 5, 0));
                for (Sentences.Call call : calls) {
                    Sentences.refused(IAE, Sentences.ALL_SCHOOLS, call);
                }
                for (int i = 4; i <= 6; i++) {
                    int sort = i;
                    for (int lesson : new int[] {0, 8, 9, -1, Integer.MIN_VALUE, Integer.MAX_VALUE}) {
                        Sentences.refused(IAE, Sentences.ALL_SCHOOLS, x -> x.wish(sort, lesson, lesson, 0));
                    }
                }
                // out of range goes ahead of a lesson that is not there
                Sentences.refused(IAE, Sentences.ALL_SCHOOLS, x -> x.wish(2, 9, 5, 0));
                Sentences.refused(IAE, Sentences.ALL_SCHOOLS, x -> x.wish(3, -1, -1, 0));
                Sentences.refused(IAE, Sentences.ALL_SCHOOLS, x -> x.wish(4, 9, 10, 10));
            });
        sentence(NO_LESSON, () -> {
            for (int i = 4; i <= 6; i++) {
                int sort = i;
                Sentences.noLesson((x, a) -> x.wish(sort, a, a == 0 ? 1 : 0, 0));
                Sentences.noLesson((x, b) -> x.wish(sort, b == 0 ? 1 : 0, b, 0));
                Sentences.noLesson((x, a) -> x.wish(sort, a, a == 9 ? 10 : 9, 0));
            }
            Sentences.noLesson((x, a) -> x.wish(2, a, 4, 9));
            Sentences.noLesson((x, a) -> x.wish(3, a, 19, 9));
        });
        sentence("Throws `IllegalStateException` if there are 12", () -> {
            for (int i = 0; i <= 6; i++) {
                int sort = i;
                Sentences.refused(ISE, Schools::full, x -> x.wish(sort, 0, 1, 0));
            }
            Schoolhours x = Schools.full();
            x.dropWish(11);
            is(11, () -> x.wish(6, 5, 0, 4));
            is(ISE, () -> x.wish(6, 5, 0, 4));
        });
    }

    private static void dropWish() {
        Sentences.part("Promise 9");
        sentence("Drops a wish.", () -> {
            Schoolhours x = Schools.wish(Schools.school("000-"), 3, 0, 1, 0, 3, 0, 2, 0, 3, 0, 3, 0);
            x.dropWish(1);
            is("3 0 1 0, 3 0 3 0", () -> Schools.wishes(x));
            x.dropWish(1);
            is("1", () -> Schools.firstTable(x));
            for (int i = 0; i < 12; i++) {
                int wish = i;
                leavesTheRest(Schools::full, y -> y.dropWish(wish));
            }
        });
        sentence(A_WISH, () -> {
            for (int i = 0; i < 12; i++) {
                int wish = i;
                is(11, () -> Schools.full().dropWish(wish));
            }
        });
        sentence("Returns how many are left.", () -> {
            Schoolhours x = Schools.full();
            for (int left = 11; left >= 0; left--) {
                int due = left;
                is(due, () -> x.dropWish(due / 3));
                is(due, x::wishes);
            }
        });
        sentence(NO_WISH, () -> {
            Sentences.noWish((x, wish) -> x.dropWish(wish));
            Schoolhours x = Schools.wish(new Schoolhours(), 0, 0, 0, 0);
            x.dropWish(0);
            is(IOOBE, () -> x.dropWish(0));
        });
    }

    private static void wishOf() {
        Sentences.part("Promise 10");
        sentence("Tells about a wish.", () -> {
            Schoolhours x = Schools.wish(Schools.school("000- 111-"), 6, 1, 0, 9, 0, 5, 19, 0);
            is("6 1 0 9, 0 5 19 0", () -> Schools.wishes(x));
        });
        sentence(A_WISH, () -> {
            Schoolhours x = Schools.full();
            is(0, () -> x.wishOf(0, 0));
            is(6, () -> x.wishOf(11, 0));
        });
        sentence("- `what`: 0 its sort, 1 a, 2 b, 3 its weight", () -> {
            Schoolhours x = Schools.wish(Schools.school("000- 111- 222-"), 5, 2, 1, 8);
            is(5, () -> x.wishOf(0, 0));
            is(2, () -> x.wishOf(0, 1));
            is(1, () -> x.wishOf(0, 2));
            is(8, () -> x.wishOf(0, 3));
        });
        sentence("Returns what is asked.", () -> {
            for (int place = 0; place < 6 * 20; place++) {
                int teacher = place / 20;
                int slot = place % 20;
                Schoolhours x = Schools.wish(new Schoolhours(), 0, teacher, slot, place % 10);
                is("0 " + teacher + " " + slot + " " + place % 10, () -> Schools.wishes(x));
            }
        });
        sentence(NO_WISH, () -> {
            Sentences.noWish((x, wish) -> x.wishOf(wish, 0));
            Sentences.noWish((x, wish) -> x.wishOf(wish, 4));
            Sentences.noWish((x, wish) -> x.wishOf(wish, -1));
        });
        sentence(NO_WHAT, () -> {
            for (int what : Sentences.beyond(0, 3)) {
                Sentences.refused(IAE, Sentences.WITH_TABLE, x -> x.wishOf(0, what));
                Sentences.refused(IAE, Schools::stuck, x -> x.wishOf(3, what));
            }
        });
    }

    private static void wishes() {
        Sentences.part("Promise 11");
        sentence("Counts the wishes.", () -> {
            Schoolhours x = new Schoolhours();
            for (int i = 0; i < 12; i++) {
                int due = i;
                is(due, x::wishes);
                x.wish(1, i % 4, i, i % 10);
            }
            is(12, x::wishes);
            is(11, x::undo);
            is(11, x::wishes);
        });
        sentence(HOW_MANY, () -> {
            is(0, () -> new Schoolhours().wishes());
            is(12, () -> Schools.full().wishes());
            is(4, () -> Schools.stuck().wishes());
            is(0, () -> {
                Schoolhours x = Schools.wish(Schools.school("000- 111-"), 2, 0, 0, 0, 6, 1, 0, 0);
                x.dropLesson(0);
                return x.wishes();
            });
        });
    }

    // ---- Tables.

    private static void find() {
        Sentences.part("Promise 12");
        sentence("Makes the first table the present one, or, if there is no right one, finds the proof (this is no"
            + " change).", () -> {
                Schoolhours x = Schools.school("000- 111-");
                is(true, x::find);
                is("0 0", () -> Schools.slots(x));
                Schools.put(x, 19, 19);
                is(true, x::find);
                is("0 0", () -> Schools.slots(x));
                is(4, x::undo);
                is("19 19", () -> Schools.slots(x));
                Schools.wish(x, 6, 0, 1, 0, 6, 1, 0, 0);
                is(NONE, x::proof);
                is(false, x::find);
                is("0 1", () -> Schools.proof(x));
                is(ISE, x::cost);
                is(false, x::find);
                is(5, x::undo);
                is(ISE, x::cost);
                is(4, x::undo);
                is("19 19", () -> Schools.slots(x));
                // of lessons that went nothing is left
                Schoolhours y = Schools.school("0000 0010 0020");
                y.setRooms(0, 1);
                y.setRooms(1, 2);
                is("0 1 2", () -> Schools.firstTable(y));
                y.dropLesson(2);
                y.dropLesson(1);
                Schools.add(y, "1111 2221");
                is("0 0 0", () -> Schools.firstTable(y));
            });
        sentence("Returns whether there is a right table.", () -> {
            is(true, () -> new Schoolhours().find());
            is(true, () -> Schools.full().find());
            is(true, () -> Schools.some().find());
            is(false, () -> Schools.stuck().find());
            // nine double lessons of a class leave two of its twenty hours
            Schoolhours x = Schools.school("000-/2 011-/2 022-/2 033-/2 044-/2 050-/2 001-/2 012-/2 023-/2");
            is("0 2 4 6 8 10 12 14 16", () -> Schools.firstTable(x));
            Schools.wish(x, 2, 8, 4, 0);
            is("0 2 4 6 8 10 12 16 14", () -> Schools.firstTable(x));
            Schools.wish(x, 1, 0, 18, 0, 1, 0, 16, 0);
            is(false, x::find);
        });
    }

    private static void proof() {
        Sentences.part("Promise 13");
        sentence("Counts the wishes of the proof.", () -> {
            is(3, () -> Schools.stuck().proof());
            is("0 2 3", () -> Schools.proof(Schools.stuck()));
        });
        sentence("Returns how many there are; NONE if the latest find() found a table, or there was none since the latest"
            + " change or undo().", () -> {
                is(NONE, () -> new Schoolhours().proof());
                is(NONE, () -> Schools.some().proof());
                List<Sentences.Call> changes = List.of(x -> x.lesson(0, 0, 0, 0, false), x -> x.dropLesson(2),
                    x -> x.wish(0, 0, 0, 0), x -> x.dropWish(1), x -> x.setRooms(0, 3), x -> x.setSubjects(5, 63),
                    x -> x.setIll(0, 0, false), x -> x.setApart(0, 1, false), Schoolhours::undo);
                for (Sentences.Call call : changes) {
                    Schoolhours x = Schools.stuck();
                    is(true, () -> call.on(x) != null);
                    is(NONE, x::proof);
                    is(false, x::find);
                    is(true, () -> x.proof() > 0);
                }
                List<Sentences.Call> others = List.of(x -> x.setBells(0, 420, 30, 0), x -> x.setYear(20240101),
                    x -> x.holiday(20240101, 20240101), x -> x.append('0', 0, 0, 0, 0), Schoolhours::clearTape,
                    Schoolhours::errors, x -> x.lesson(4, 0, 0, 0, false), x -> x.move(0, 0), Schoolhours::read,
                    Schoolhours::improve, Schoolhours::write, x -> x.dropWish(4), Schoolhours::find,
                    x -> x.colour(0), Schoolhours::most, Schoolhours::group);
                for (Sentences.Call call : others) {
                    Schoolhours x = Schools.stuck();
                    Schools.answer(() -> call.on(x));
                    is("0 2 3", () -> Schools.proof(x));
                }
                Schoolhours x = Schools.stuck();
                x.dropWish(0);
                is(true, x::find);
                is(NONE, x::proof);
                emptyProof();
            });
    }

    private static void emptyProof() {
        Schoolhours x = Schools.school("0000");
        x.setRooms(0, 0);
        is(NONE, x::proof);
        is(false, x::find);
        is(0, x::proof);
        is(IOOBE, () -> x.proofAt(0));
        x.undo();
        is(NONE, x::proof);
        is(true, x::find);
        is(NONE, x::proof);
    }

    private static void proofAt() {
        Sentences.part("Promise 14");
        sentence("Returns a wish of the proof.", () -> is("0 2 3", () -> Schools.proof(Schools.stuck())));
        sentence("- `place`: 0 for the least one, and so on", () -> {
            Schoolhours x = Schools.stuck();
            is(0, () -> x.proofAt(0));
            is(2, () -> x.proofAt(1));
            is(3, () -> x.proofAt(2));
        });
        sentence("Returns its number.", () -> {
            Schoolhours x = Schools.school("000- 111-");
            Schools.wish(x, 4, 0, 1, 0, 2, 1, 2, 0, 2, 1, 3, 0, 2, 1, 4, 0);
            for (int slot = 0; slot < 8; slot++) {
                x.wish(0, 0, slot, 0);
            }
            is(false, x::find);
            is(12, x::proof);
            for (int i = 0; i < 12; i++) {
                int number = i;
                is(number, () -> x.proofAt(number));
            }
            is(IOOBE, () -> x.proofAt(12));
        });
        sentence("Throws `IndexOutOfBoundsException` if there are not so many, or no proof", () -> {
            for (int place : Sentences.beyond(0, 2)) {
                Sentences.refused(IOOBE, Schools::stuck, x -> x.proofAt(place));
            }
            for (int place : Sentences.beyond(0, -1)) {
                Sentences.refused(IOOBE, Schoolhours::new, x -> x.proofAt(place));
                Sentences.refused(IOOBE, Schools::full, x -> x.proofAt(place));
            }
            Schoolhours x = Schools.stuck();
            x.dropWish(1);
            is(IOOBE, () -> x.proofAt(0));
        });
    }

    private static void slotOf() {
        Sentences.part("Promise 15");
        sentence("Returns the slot at which a lesson begins.", () -> {
            for (int i = 0; i < 20; i++) {
                int slot = i;
                Schoolhours x = Schools.school("000- 111-");
                Schools.put(x, slot, 19 - slot);
                is(slot, () -> x.slotOf(0));
                is(19 - slot, () -> x.slotOf(1));
            }
        });
        sentence(A_LESSON, () -> {
            Schoolhours x = Schools.school(NINE);
            Schools.put(x, 16, 1, 9, 3, 13, 5, 19, 0, 7);
            is("16 1 9 3 13 5 19 0 7", () -> Schools.slots(x));
        });
        sentence("Returns the slot.", () -> {
            Schoolhours x = Schools.school("000-/2");
            Schools.put(x, 18);
            is(18, () -> x.slotOf(0));
        });
        sentence(NO_LESSON, () -> Sentences.noLesson((x, lesson) -> x.slotOf(lesson)));
        tableOfLessons(x -> x.slotOf(0));
    }

    /** A question about the present table that asks for a lesson; a school without a table has three. */
    private static void tableOfLessons(Sentences.Call call) {
        Sentences.asksTable(List.of(Schools::stuck), call);
    }

    private static void lessonAt() {
        Sentences.part("Promise 16");
        sentence("Returns the lesson that a teacher or a class has at a slot.", () -> {
            Schoolhours x = Schools.school("000-/2 011- 100-");
            Schools.put(x, 4, 6, 6);
            is("-1 0 0 1 -1", () -> at(x, false, 0));
            is("-1 0 0 2 -1", () -> at(x, true, 0));
            is("-1 -1 -1 1 -1", () -> at(x, true, 1));
            is("-1 -1 -1 2 -1", () -> at(x, false, 1));
        });
        sentence("- `isTeacher`: whether a teacher is meant", () -> {
            Schoolhours x = Schools.school("010- 102-");
            Schools.put(x, 0, 0);
            is(0, () -> x.lessonAt(false, 0, 0));
            is(1, () -> x.lessonAt(true, 0, 0));
        });
        sentence("- `who`: 0 to 5 of a teacher, 0 to 3 of a class", () -> {
            for (int i = 0; i < 6; i++) {
                int who = i;
                Schoolhours x = Schools.school(who % 4 + "" + who + "0-");
                x.find();
                is(0, () -> x.lessonAt(true, who, 0));
                is(0, () -> x.lessonAt(false, who % 4, 0));
                is(NONE, () -> x.lessonAt(true, (who + 1) % 6, 0));
            }
            Sentences.beyond(IAE, 0, 5, (x, who) -> x.lessonAt(true, who, 0));
            Sentences.beyond(IAE, 0, 3, (x, who) -> x.lessonAt(false, who, 0));
        });
        sentence("- `slot`: 0 to 19", () -> {
            for (int i = 0; i < 20; i++) {
                int slot = i;
                Schoolhours x = Schools.school("000-");
                Schools.put(x, slot);
                is(0, () -> x.lessonAt(true, 0, slot));
                is(NONE, () -> x.lessonAt(true, 0, (slot + 1) % 20));
            }
            Sentences.beyond(IAE, 0, 19, (x, slot) -> x.lessonAt(true, 0, slot));
            Sentences.beyond(IAE, 0, 19, (x, slot) -> x.lessonAt(false, 0, slot));
        });
        sentence("Returns the number of the lesson; NONE without one.", () -> {
            Schoolhours x = Schools.school("000- 011- 022- 033- 044- 055- 001- 012- 023-");
            x.find();
            for (int i = 0; i < 20; i++) {
                int slot = i;
                is(slot < 9 ? slot : NONE, () -> x.lessonAt(false, 0, slot));
                is(NONE, () -> x.lessonAt(false, 1, slot));
            }
            Schoolhours empty = new Schoolhours();
            empty.find();
            is(NONE, () -> empty.lessonAt(true, 5, 19));
        });
        sentence(IN_RANGE, () -> {
            Sentences.refused(IAE, Sentences.ALL_SCHOOLS, x -> x.lessonAt(true, -1, -1));
            Sentences.refused(IAE, Sentences.ALL_SCHOOLS, x -> x.lessonAt(false, 4, 0));
        });
        noTable(x -> x.lessonAt(false, 3, 19));
    }

    private static String at(Schoolhours x, boolean isTeacher, int who) {
        StringBuilder text = new StringBuilder();
        for (int slot = 3; slot <= 7; slot++) {
            text.append(slot == 3 ? "" : " ").append(x.lessonAt(isTeacher, who, slot));
        }
        return text.toString();
    }

    private static void roomOf() {
        Sentences.part("Promise 17");
        sentence("Returns the room of a lesson in the present table.", () -> {
            Schoolhours x = Schools.school("0001 1111/2 2221 333- 3442 0551");
            Schools.put(x, "0m1;1m0;2m1;3m0;4m1;5m2;");
            is("1 0 2 -1 0 0", () -> Schools.rooms(x));
            x.move(1, 1);
            is("0 1 2 -1 0 0", () -> Schools.rooms(x));
        });
        sentence(A_LESSON, () -> {
            Schoolhours x = Schools.school("0001 1111 2221 3331 0441 1551 2001 3111 0221");
            Schools.put(x, 0, 0, 0, 1, 1, 1, 2, 2, 2);
            is("0 1 2 0 1 2 0 1 2", () -> Schools.rooms(x));
        });
        sentence("Returns the number of the room of its kind; NONE if it needs none.", () -> {
            Schoolhours x = Schools.school("0002 1112 2222 333- 344-");
            Schools.put(x, 19, 19, 19, 19, 18);
            is("0 1 2 -1 -1", () -> Schools.rooms(x));
        });
        sentence(NO_LESSON, () -> Sentences.noLesson((x, lesson) -> x.roomOf(lesson)));
        tableOfLessons(x -> x.roomOf(2));
    }

    private static void choices() {
        Sentences.part("Promise 18");
        sentence("Counts the slots at which a lesson can be moved, so that the present table is right, the present one"
            + " left out.", () -> {
                List<Schoolhours> schools = List.of(Schools.full(), Schools.some(), Schools.school("000-"),
                    Schools.school("000-/2 010- 0220"));
                for (Schoolhours x : schools) {
                    if (x.checksum() == 0) {
                        x.find();
                    }
                    for (int i = 0; i < x.lessons(); i++) {
                        int lesson = i;
                        int due = movesOf(x, lesson);
                        is(due, () -> x.choices(lesson));
                    }
                }
                movesAreTables("000- 111- 222- 333-", new int[] {2, 3, 6, 8}, 6, 0, 2, 6, 1, 2, 6, 2, 3, 6, 0, 3);
                movesAreTables("000- 111- 222- 333-", new int[] {2, 3, 1, 0}, 4, 0, 3, 4, 3, 1, 4, 2, 3);
                movesAreTables("000- 111- 222- 333-", new int[] {2, 4, 8, 12}, 5, 0, 3, 5, 3, 1, 5, 2, 3, 5, 1, 0);
                movesAreTables("000- 111- 222- 333-", new int[] {2, 4, 4, 12}, 2, 3, 0, 0, 1, 3, 1, 2, 0, 3, 0, 2);
                movesAreTables("0000 1110/2 2220/2 3330 0440/2 1550 2000 3110/2 0220", new int[] {0, 0, 1, 4, 5, 5, 9, 12,
                    16});
                // three rooms that are full, and a lesson at another slot between those that fill them, or behind them
                movesAreTables("0000 1110 0220 2330 3440", new int[] {5, 5, 9, 5, 12});
                movesAreTables("0000 1110 2330 3440 0220", new int[] {5, 5, 5, 12, 9});
                movesAreTables("0000/2 0000/2 0000/2 0110 1220 1300 1310/2", new int[] {0, 4, 8, 3, 1, 4, 9});
            });
        sentence(A_LESSON, () -> {
            Schoolhours x = Schools.school("000- 010-/2");
            x.find();
            is(15, () -> x.choices(0));
            is(11, () -> x.choices(1));
        });
        sentence(HOW_MANY, () -> {
            is(19, () -> choicesOf("000-"));
            is(14, () -> choicesOf("000-/2"));
            Schoolhours x = Schools.wish(Schools.school("000-"), 3, 0, 19, 0);
            x.find();
            is(0, () -> x.choices(0));
        });
        sentence(NO_LESSON, () -> Sentences.noLesson((x, lesson) -> x.choices(lesson)));
        tableOfLessons(x -> x.choices(2));
    }

    /** The slots to which a lesson can be moved are those with which the table can be read; hard wishes by threes. */
    private static void movesAreTables(String lessons, int[] slots, int... wishes) {
        Supplier<Schoolhours> made = () -> {
            Schoolhours x = Schools.school(lessons);
            for (int at = 0; at < wishes.length; at += 3) {
                x.wish(wishes[at], wishes[at + 1], wishes[at + 2], 0);
            }
            return x;
        };
        for (int i = 0; i < slots.length; i++) {
            int lesson = i;
            Schoolhours reader = made.get();
            int choices = 0;
            for (int j = 0; j < 20; j++) {
                int slot = j;
                int[] other = slots.clone();
                other[lesson] = slot;
                boolean isRight = Schools.isRight(reader, other);
                choices += isRight && slot != slots[lesson] ? 1 : 0;
                Schoolhours x = made.get();
                Schools.put(x, slots);
                is(isRight ? "moved" : ISE, () -> x.move(lesson, slot) >= 0 ? "moved" : "");
            }
            int due = choices;
            Schoolhours x = made.get();
            Schools.put(x, slots);
            is(due, () -> x.choices(lesson));
        }
    }

    /** How many other slots a lesson can be moved to, asked by moving it; it is undone each time. */
    private static int movesOf(Schoolhours x, int lesson) {
        int total = 0;
        int present = x.slotOf(lesson);
        for (int i = 0; i < 20; i++) {
            int slot = i;
            if (slot != present && Schools.answer(() -> x.move(lesson, slot)) instanceof Integer) {
                total++;
                x.undo();
            }
        }
        return total;
    }

    private static void move() {
        Sentences.part("Promise 19");
        sentence("Puts a lesson of the present table to another slot.", () -> {
            Schoolhours x = Schools.school("000- 111- 222-");
            Schools.put(x, 1, 2, 3);
            x.move(1, 19);
            is("1 19 3", () -> Schools.slots(x));
            // where it is, it is right, too, and a change
            is(0, () -> x.move(1, 19));
            is(5, x::undo);
            is("1 19 3", () -> Schools.slots(x));
        });
        sentence(A_LESSON, () -> {
            Schoolhours x = Schools.school("000- 111- 222- 333- 044- 155- 201- 312- 023-");
            x.find();
            for (int i = 0; i < 9; i++) {
                int lesson = i;
                is(true, () -> x.move(lesson, 19 - lesson) >= 0);
                is(19 - lesson, () -> x.slotOf(lesson));
            }
        });
        sentence("- `slot`: 0 to 19", () -> {
            Schoolhours x = Schools.school("000-");
            x.find();
            for (int i = 0; i < 20; i++) {
                int slot = i;
                is(0, () -> x.move(0, slot));
                is(slot, () -> x.slotOf(0));
            }
            for (int slot : Sentences.beyond(0, 19)) {
                Sentences.refused(IAE, Schools::full, y -> y.move(8, slot));
                Sentences.refused(IAE, Schools::stuck, y -> y.move(0, slot));
            }
        });
        sentence("Returns the cost then.", () -> {
            Schoolhours x = Schools.wish(Schools.school("000- 011-"), 3, 0, 2, 9);
            Schools.put(x, 0, 4);
            is(9 + 2, () -> x.move(1, 3));
            is(9 + 1, () -> x.move(0, 1));
            is(0, () -> x.move(0, 2));
            is(0, x::cost);
        });
        sentence(NO_LESSON, () -> {
            Sentences.noLesson((x, lesson) -> x.move(lesson, 0));
            Sentences.noLesson((x, lesson) -> x.move(lesson, 20));
            Sentences.noLesson((x, lesson) -> x.move(lesson, -1));
        });
        sentence(NO_SLOT, () -> Sentences.refused(IAE, Sentences.WITH_TABLE, x -> x.move(0, 20)));
        sentence("Throws `IllegalStateException` if there is no present table, or it would not be right", () -> {
            Sentences.refused(ISE, Schools::stuck, x -> x.move(0, 0));
            Sentences.refused(ISE, Schools::stuck, x -> x.move(2, 19));
            // a double lesson at the hour 3; a class, a teacher, a subject, a room, a hard wish
            for (int slot = 3; slot < 20; slot += 4) {
                int hour3 = slot;
                Sentences.refused(ISE, Sentences.WITH_TABLE, x -> x.move(0, hour3));
            }
            wrongMoves("000-/2 011-", "0 2", 1, 0, 1);
            wrongMoves("000-/2 011-", "0 2", 0, 1, 2);
            wrongMoves("000-/2 101-", "0 2", 1, 0, 1);
            wrongMoves("000- 010-", "0 4", 1, 0, 1, 2, 3);
            wrongMoves("0000 1110 2220 3330/2", "5 5 5 0", 3, 4, 5);
            wrongMoves("0000/2 1110/2 2220/2 3330", "4 4 4 0", 3, 4, 5);
            // three lessons fill the rooms of a slot, told with one between them, or behind them
            wrongMoves("0000 1110 0220 2330 3440", "5 5 9 5 12", 4, 5);
            wrongMoves("0000 1110 2330 3440 0220", "5 5 5 12 9", 3, 5);
            Schoolhours x = Schools.wish(Schools.school("000- 111-"), 6, 0, 1, 0);
            Schools.put(x, 8, 9);
            is(ISE, () -> x.move(1, 8));
            is(ISE, () -> x.move(0, 9));
            is(0, () -> x.move(0, 7));
        });
    }

    /** A lesson cannot be moved to some slots, and can to all others (a double one to hours 0 to 2). */
    private static void wrongMoves(String lessons, String slots, int lesson, int... wrong) {
        String[] words = slots.split(" ");
        int[] begin = new int[words.length];
        for (int i = 0; i < begin.length; i++) {
            begin[i] = Integer.parseInt(words[i]);
        }
        for (int i = 0; i < 20; i++) {
            int slot = i;
            Schoolhours x = Schools.school(lessons);
            Schools.put(x, begin);
            boolean isWrong = slot % 4 == 3 && x.lessonOf(lesson, 4) == 1;
            for (int other : wrong) {
                isWrong |= other == slot;
            }
            is(isWrong ? ISE : "moved", () -> x.move(lesson, slot) >= 0 ? "moved" : "");
            is(isWrong ? begin[lesson] : slot, () -> x.slotOf(lesson));
        }
    }

    private static void holds() {
        Sentences.part("Promise 20");
        sentence("Tells whether a wish holds in the present table.", () -> {
            Schoolhours x = Schools.wish(Schools.school("000-/2 111-"), 0, 0, 1, 1, 1, 0, 2, 1, 2, 0, 0, 1, 3, 1, 4, 1, 4, 0,
                1, 1, 5, 0, 1, 1, 6, 0, 1, 1, 6, 1, 0, 1, 2, 1, 0, 0);
            Schools.put(x, 0, 4);
            String due = "false true false true false true true false true ";
            is(due, () -> held(x));
            x.move(0, 8);
            is("true true true true false true false true true ", () -> held(x));
        });
        sentence(A_WISH, () -> {
            Schoolhours x = Schools.school("000-");
            for (int i = 0; i < 12; i++) {
                x.wish(3, 0, i, 1);
            }
            Schools.put(x, 11);
            for (int i = 0; i < 12; i++) {
                int wish = i;
                is(wish == 11, () -> x.holds(wish));
            }
        });
        sentence("Returns whether it does.", () -> {
            Schoolhours x = Schools.wish(Schools.school("000-"), 3, 0, 5, 0, 3, 0, 6, 9);
            x.find();
            is(true, () -> x.holds(0));
            is(false, () -> x.holds(1));
        });
        sentence(NO_WISH, () -> Sentences.noWish((x, wish) -> x.holds(wish)));
        tableOfLessons(x -> x.holds(0));
    }

    private static String held(Schoolhours x) {
        StringBuilder text = new StringBuilder();
        for (int wish = 0; wish < x.wishes(); wish++) {
            text.append(x.holds(wish)).append(' ');
        }
        return text.toString();
    }

    // ---- Gaps and moves, colours.

    private static void cost() {
        Sentences.part("Promise 21");
        sentence("Returns the cost of the present table.", () -> {
            Schoolhours x = Schools.wish(Schools.school("000- 011- 102-"), 3, 0, 0, 9, 3, 1, 0, 7, 2, 2, 0, 4, 3, 0, 0, 0);
            is(3 + 7 + 4, () -> Schools.put(x, 0, 3, 2));
            is(3 + 7 + 4, x::cost);
        });
        sentence("Returns the cost.", () -> {
            Schoolhours x = new Schoolhours();
            x.find();
            is(0, x::cost);
            is(108, () -> {
                Schoolhours y = Schools.school("000-");
                for (int i = 0; i < 12; i++) {
                    y.wish(2, 0, 0, 9);
                }
                y.find();
                return y.cost();
            });
        });
        noTable(Schoolhours::cost);
    }

    private static void gaps() {
        Sentences.part("Promise 22");
        sentence("Counts the gaps of a teacher or a class.", () -> {
            Schoolhours x = Schools.school("000- 011- 102- 300- 305-");
            Schools.put(x, 0, 3, 2, 8, 11);
            is("2 0 0 2", () -> x.gaps(false, 0) + " " + x.gaps(false, 1) + " " + x.gaps(false, 2) + " " + x.gaps(false, 3));
            is("3 0", () -> x.gaps(true, 0) + " " + x.gaps(true, 1));
        });
        sentence("- `isTeacher`: whether a teacher is meant", () -> {
            Schoolhours x = Schools.school("100- 111-");
            Schools.put(x, 0, 3);
            is(2, () -> x.gaps(false, 1));
            is(0, () -> x.gaps(true, 1));
        });
        sentence("- `who`: 0 to 5 of a teacher, 0 to 3 of a class", () -> {
            for (int i = 0; i < 6; i++) {
                int who = i;
                Schoolhours x = Schools.school("0W0- 1W1-".replace("W", "" + who));
                Schools.put(x, 17, 19);
                is(1, () -> x.gaps(true, who));
                is(0, () -> x.gaps(true, (who + 1) % 6));
            }
            for (int i = 0; i < 4; i++) {
                int who = i;
                Schoolhours x = Schools.school("W00- W11-".replace("W", "" + who));
                Schools.put(x, 0, 2);
                is(1, () -> x.gaps(false, who));
                is(0, () -> x.gaps(false, (who + 1) % 4));
            }
            Sentences.beyond(IAE, 0, 5, (x, who) -> x.gaps(true, who));
            Sentences.beyond(IAE, 0, 3, (x, who) -> x.gaps(false, who));
        });
        sentence(HOW_MANY, () -> {
            Schoolhours x = Schools.school("000- 011- 022- 033- 044- 055- 001- 012-");
            // two gaps on each of four days
            is(8, () -> Schools.put(x, 0, 3, 4, 7, 8, 11, 12, 15));
            is(8, () -> x.gaps(false, 0));
            Schoolhours empty = new Schoolhours();
            empty.find();
            is(0, () -> empty.gaps(true, 5));
        });
        sentence("Throws `IllegalArgumentException` if who is out of range", () -> {
            Sentences.refused(IAE, Sentences.ALL_SCHOOLS, x -> x.gaps(true, 6));
            Sentences.refused(IAE, Sentences.ALL_SCHOOLS, x -> x.gaps(false, 4));
        });
        noTable(x -> x.gaps(true, 5));
    }

    private static void improve() {
        Sentences.part("Promise 23");
        sentence("Does the best move, if the cost becomes less by it.", () -> {
            Schoolhours x = Schools.school("000- 011-");
            Schools.put(x, 0, 3);
            x.improve();
            is("2 3", () -> Schools.slots(x));
            is(3, x::undo);
            is("0 3", () -> Schools.slots(x));
            // of the first table, too, and of one that undo brings back
            Schoolhours y = Schools.wish(Schools.school("000- 011-"), 3, 1, 2, 5);
            is("0 1", () -> Schools.firstTable(y));
            is(4, y::improve);
            is("0 2", () -> Schools.slots(y));
            Schools.wish(y, 3, 0, 0, 0, 3, 1, 1, 0);
            y.find();
            is(0, y::improve);
            y.undo();
            y.undo();
            y.undo();
            is("0 2", () -> Schools.slots(y));
            is(1, y::improve);
            is("1 2", () -> Schools.slots(y));
        });
        sentence("Returns by how much it became less; 0, and no change, if there is no such move.", () -> {
            Schoolhours x = Schools.wish(Schools.school("000- 111-"), 3, 0, 9, 9, 3, 1, 9, 1);
            Schools.put(x, 0, 0);
            is(9, x::improve);
            is(1, x::improve);
            is("9 9", () -> Schools.slots(x));
            is(0, x::improve);
            is("9 9", () -> Schools.slots(x));
            is(6, x::undo);
            is("9 0", () -> Schools.slots(x));
            Schoolhours empty = new Schoolhours();
            empty.find();
            is(0, empty::improve);
            is(0, empty::undo);
        });
        noTable(Schoolhours::improve);
    }

    private static void most() {
        Sentences.part("Promise 24");
        sentence("Returns the most lessons that a class or a teacher has.", () -> {
            is(3, () -> Schools.school("050- 150- 250- 241-").most());
            is(3, () -> Schools.school("350- 341- 332- 250-").most());
            is(1, () -> Schools.school("000- 111- 222- 333-").most());
        });
        sentence("Returns how many there are; 0 without lessons.", () -> {
            is(0, () -> new Schoolhours().most());
            is(1, () -> Schools.school("355-/2").most());
            is(9, () -> Schools.school("000- 010- 020- 030- 040- 050- 000- 010- 020-").most());
            is(9, () -> Schools.school("050- 150- 250- 350- 050- 150- 250- 350- 050-").most());
            Schoolhours x = Schools.school("000-");
            x.dropLesson(0);
            is(0, x::most);
        });
    }

    private static void colour() {
        Sentences.part("Promise 25");
        sentence("Returns the colour of a lesson.", () ->
            is("0 1 1 0 0 1", () -> Schools.colours(Schools.school("050- 230- 120- 220- 110- 010-"))));
        sentence(A_LESSON, () -> {
            Schoolhours x = Schools.school("000- 100- 200- 300- 000- 100- 200- 300- 000-");
            for (int i = 0; i < 9; i++) {
                int lesson = i;
                is(lesson, () -> x.colour(lesson));
            }
        });
        sentence("Returns its colour.", () -> {
            Schoolhours x = Schools.school("000- 010- 110- 100-");
            is("0 1 0 1", () -> Schools.colours(x));
            x.dropLesson(0);
            is("0 1 0", () -> Schools.colours(x));
            x.undo();
            is("0 1 0 1", () -> Schools.colours(x));
            // a way is turned, and not any more without its last lesson
            Schoolhours y = Schools.school("000- 010- 120- 110-");
            is("1 0 0 1", () -> Schools.colours(y));
            y.dropLesson(3);
            is("0 1 0", () -> Schools.colours(y));
            y.undo();
            is("1 0 0 1", () -> Schools.colours(y));
        });
        sentence(NO_LESSON, () -> Sentences.noLesson((x, lesson) -> x.colour(lesson)));
    }
}
