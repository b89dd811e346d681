import java.time.LocalDate;
import java.util.List;
import java.util.concurrent.Callable;
import java.util.function.Supplier;

/** The promises 26 to 46 of the document, sentence by sentence: illness, exams, bells, the year. */
public final class LaterSentences {
    private static final int NONE = Schoolhours.NONE;
    private static final Class<?> IAE = Sentences.IAE;
    private static final Class<?> ISE = Sentences.ISE;
    private static final Class<?> IOOBE = Sentences.IOOBE;
    private static final String IN_RANGE = "Throws `IllegalArgumentException` if a number is out of range";
    private static final String NO_SUCH_DATE = "Throws `IllegalArgumentException` if it is no such date";
    private static final String A_DATE = "- `date`: a date, from 20000101 to 20991231";
    private static final String HOW_MANY = "Returns how many there are.";
    /** Two double lessons of each class on Monday; the teachers 4 and 5 have none. */
    private static final String FULL_DAY = "000-/2 001-/2 110-/2 111-/2 220-/2 221-/2 330-/2 331-/2";
    private static final String ALL_APART = "01 02 03 04 05 06 07 12 13 14 15 16 17 23 24 25 26 27 34 35 36 37 45 46 47"
        + " 56 57 67";

    public static void main(String[] args) {
        setIll();
        ill();
        substitute();
        takes();
        setApart();
        daysNeeded();
        examDay();
        group();
        setBells();
        bell();
        slotAt();
        setYear();
        holiday();
        holidayExceptions();
        schoolDays();
        dateOf();
        numberOf();
        nextDay();
        weekOf();
        weekOfExceptions();
        dayOfWeek();
        later();
        lostLessons();
        Sentences.end();
    }

    private static void sentence(String words, Runnable test) {
        Sentences.sentence(words, test);
    }

    private static void is(Object due, Callable<Object> call) {
        Sentences.is(due, call);
    }

    // ---- Illness.

    private static void setIll() {
        Sentences.part("Promise 26");
        sentence("Tells that a teacher is ill on a day, or is not.", () -> {
            Schoolhours x = Schools.school("000- 111-");
            x.find();
            x.setIll(0, 0, true);
            is("2 -1", () -> Schools.substitutes(x, 0));
            x.setIll(1, 0, true);
            is("2 3", () -> Schools.substitutes(x, 0));
            x.setIll(0, 0, false);
            is("-1 2", () -> Schools.substitutes(x, 0));
            x.setIll(2, 1, true);
            is("-1 2", () -> Schools.substitutes(x, 0));
            x.setIll(2, 0, true);
            is("-1 3", () -> Schools.substitutes(x, 0));
            is(7, x::undo);
            is("-1 2", () -> Schools.substitutes(x, 0));
        });
        sentence("- `teacher`: 0 to 5", () -> {
            for (int i = 0; i < 6; i++) {
                onlyIll(i, 0);
                onlyIll(i, 4);
            }
            Sentences.beyond(IAE, 0, 5, (x, teacher) -> x.setIll(teacher, 0, true));
            Sentences.beyond(IAE, 0, 5, (x, teacher) -> x.setIll(teacher, 4, false));
        });
        sentence("- `day`: 0 to 4", () -> {
            for (int i = 0; i < 5; i++) {
                onlyIll(0, i);
                onlyIll(5, i);
            }
            Sentences.beyond(IAE, 0, 4, (x, day) -> x.setIll(0, day, true));
            Sentences.beyond(IAE, 0, 4, (x, day) -> x.setIll(5, day, false));
        });
        sentence("- `isIll`: whether", () -> {
            Schoolhours x = Schools.school("000-");
            x.find();
            for (boolean isIll : new boolean[] {false, true, true, false, true, false, false}) {
                x.setIll(0, 0, isIll);
                is(isIll ? 1 : 0, () -> x.ill(0, false));
                is(isIll ? 1 : NONE, () -> x.substitute(0, 0));
            }
        });
        sentence("Returns whether it was told that it is.", () -> {
            Schoolhours x = new Schoolhours();
            is(false, () -> x.setIll(3, 2, false));
            is(false, () -> x.setIll(3, 2, true));
            is(true, () -> x.setIll(3, 2, true));
            is(true, () -> x.setIll(3, 2, false));
            is(false, () -> x.setIll(3, 2, false));
            x.undo();
            x.undo();
            is(true, () -> x.setIll(3, 2, true));
        });
        sentence(IN_RANGE, () -> {
            Sentences.refused(IAE, Sentences.ALL_SCHOOLS, x -> x.setIll(6, 5, true));
            Sentences.refused(IAE, Sentences.ALL_SCHOOLS, x -> x.setIll(-1, -1, false));
            // the place of the teacher and the day in a row of all of them is no way round
            Sentences.refused(IAE, Sentences.ALL_SCHOOLS, x -> x.setIll(1, -5, true));
            Sentences.refused(IAE, Sentences.ALL_SCHOOLS, x -> x.setIll(0, 32, true));
        });
    }

    /** One illness is told, and no other one is seen. */
    private static void onlyIll(int teacher, int day) {
        Schoolhours x = new Schoolhours();
        is(false, () -> x.setIll(teacher, day, true));
        for (int i = 0; i < 30; i++) {
            int place = i;
            is(place == 5 * teacher + day, () -> x.setIll(place / 5, place % 5, false));
        }
    }

    private static void ill() {
        Sentences.part("Promise 27");
        sentence("Counts the lessons that need a substitute, each slot by itself.", () -> {
            Schoolhours x = Schools.school("000-/2 011- 111-/2");
            Schools.put(x, 4, 6, 4);
            is(0, () -> x.ill(1, false));
            x.setIll(0, 1, true);
            is(2, () -> x.ill(1, false));
            x.setIll(1, 1, true);
            is(5, () -> x.ill(1, false));
            x.setIll(0, 1, false);
            is(3, () -> x.ill(1, false));
            is(0, () -> x.ill(0, false));
            is(0, () -> x.ill(2, false));
        });
        sentence("- `day`: 0 to 4", () -> {
            for (int i = 0; i < 5; i++) {
                int day = i;
                Schoolhours x = Schools.school("000- 011- 022-/2");
                Schools.put(x, 4 * day, 4 * day + 3, 4 * ((day + 1) % 5));
                for (int other = 0; other < 5; other++) {
                    x.setIll(0, other, true);
                    x.setIll(1, other, true);
                    x.setIll(2, other, true);
                }
                for (int j = 0; j < 5; j++) {
                    int asked = j;
                    is(asked == day || asked == (day + 1) % 5 ? 2 : 0, () -> x.ill(asked, false));
                }
            }
            Sentences.beyond(IAE, 0, 4, (x, day) -> x.ill(day, false));
            Sentences.beyond(IAE, 0, 4, (x, day) -> x.ill(day, true));
        });
        sentence("- `isLeft`: whether those alone count that get none", () -> {
            Schoolhours x = fullDay(4);
            is("16 8", () -> x.ill(0, false) + " " + x.ill(0, true));
            x.setIll(4, 0, true);
            is("16 12", () -> x.ill(0, false) + " " + x.ill(0, true));
            x.setIll(3, 0, false);
            is("12 8", () -> x.ill(0, false) + " " + x.ill(0, true));
            Schoolhours y = Schools.school("000-");
            y.find();
            y.setIll(0, 0, true);
            is("1 0", () -> y.ill(0, false) + " " + y.ill(0, true));
        });
        sentence(HOW_MANY, () -> {
            is("16 16", () -> fullDay(6).ill(0, false) + " " + fullDay(6).ill(0, true));
            is("0 0", () -> fullDay(0).ill(0, false) + " " + fullDay(0).ill(0, true));
            is("4 0", () -> fullDay(1).ill(0, false) + " " + fullDay(1).ill(0, true));
            is("0 0", () -> fullDay(6).ill(1, false) + " " + fullDay(6).ill(1, true));
            Schoolhours empty = new Schoolhours();
            empty.find();
            empty.setIll(0, 0, true);
            is("0 0", () -> empty.ill(0, false) + " " + empty.ill(0, true));
        });
        sentence("Throws `IllegalArgumentException` if day is out of range", () -> {
            Sentences.refused(IAE, Sentences.ALL_SCHOOLS, x -> x.ill(5, true));
            Sentences.refused(IAE, Sentences.ALL_SCHOOLS, x -> x.ill(-1, false));
        });
        Sentences.asksTable(Sentences.WITHOUT_TABLE, x -> x.ill(4, true));
    }

    /** Each class has a lesson at all four hours of Monday; the first teachers are ill then. */
    private static Schoolhours fullDay(int ill) {
        Schoolhours x = Schools.school(FULL_DAY);
        for (int teacher = 0; teacher < ill; teacher++) {
            x.setIll(teacher, 0, true);
        }
        // a subject of a class cannot be there twice, but these are two subjects
        Schools.put(x, 0, 2, 0, 2, 0, 2, 0, 2);
        return x;
    }

    private static void substitute() {
        Sentences.part("Promise 28");
        sentence("Returns the substitute of a lesson at a slot.", () -> {
            Schoolhours x = fullDay(4);
            is("4 -1 5 -1 -1 -1 -1 -1", () -> Schools.substitutes(x, 0));
            is("4 -1 5 -1 -1 -1 -1 -1", () -> Schools.substitutes(x, 1));
            is("-1 4 -1 5 -1 -1 -1 -1", () -> Schools.substitutes(x, 2));
            is("-1 4 -1 5 -1 -1 -1 -1", () -> Schools.substitutes(x, 3));
            is("-1 -1 -1 -1 -1 -1 -1 -1", () -> Schools.substitutes(x, 4));
        });
        sentence("- `lesson`: number of a lesson", () -> {
            Schoolhours x = nineOfOne();
            for (int i = 0; i < 9; i++) {
                int lesson = i;
                is(1, () -> x.substitute(lesson, 2 * lesson));
            }
        });
        sentence("- `slot`: 0 to 19", () -> {
            for (int i = 0; i < 20; i++) {
                int slot = i;
                Schoolhours x = Schools.school("000-");
                Schools.put(x, slot);
                x.setIll(0, slot / 4, true);
                for (int j = 0; j < 20; j++) {
                    int asked = j;
                    is(asked == slot ? 1 : NONE, () -> x.substitute(0, asked));
                }
            }
            for (int slot : Sentences.beyond(0, 19)) {
                Sentences.refused(IAE, Schools::full, x -> x.substitute(8, slot));
                Sentences.refused(IAE, Schools::some, x -> x.substitute(0, slot));
            }
        });
        sentence("Returns the teacher; NONE if it gets none, needs none, or is not at this slot.", () -> {
            for (int i = 0; i < 6; i++) {
                int teacher = i;
                Schoolhours x = Schools.school("0T0-/2".replace("T", "" + (teacher + 1) % 6));
                for (int other = 0; other < 6; other++) {
                    x.setIll(other, 2, other != teacher);
                }
                Schools.put(x, 9);
                is(NONE, () -> x.substitute(0, 8));
                is(teacher, () -> x.substitute(0, 9));
                is(teacher, () -> x.substitute(0, 10));
                is(NONE, () -> x.substitute(0, 11));
                // it gets none
                x.setIll(teacher, 2, true);
                is(NONE, () -> x.substitute(0, 9));
                // it needs none
                x.setIll(teacher, 2, false);
                x.setIll((teacher + 1) % 6, 2, false);
                is(NONE, () -> x.substitute(0, 9));
            }
        });
        sentence("Throws `IndexOutOfBoundsException` if there is no such lesson", () -> {
            Sentences.noLesson((x, lesson) -> x.substitute(lesson, 0));
            Sentences.noLesson((x, lesson) -> x.substitute(lesson, 20));
            Sentences.noLesson((x, lesson) -> x.substitute(lesson, -1));
        });
        sentence("Throws `IllegalArgumentException` if slot is out of range", () -> {
            for (int slot : Sentences.beyond(0, 19)) {
                Sentences.refused(IAE, Schools::stuck, x -> x.substitute(2, slot));
            }
        });
        Sentences.asksTable(List.of(Schools::stuck), x -> x.substitute(2, 19));
    }

    /** Nine double lessons of one teacher, who is ill on all days: two on each day, one on Friday. */
    private static Schoolhours nineOfOne() {
        Schoolhours x = Schools.school("000-/2 101-/2 202-/2 303-/2 004-/2 105-/2 200-/2 301-/2 002-/2");
        Schools.put(x, 0, 2, 4, 6, 8, 10, 12, 14, 16);
        for (int day = 0; day < 5; day++) {
            x.setIll(0, day, true);
        }
        return x;
    }

    private static void takes() {
        Sentences.part("Promise 29");
        sentence("Counts how often a teacher is a substitute, in the week.", () -> {
            Schoolhours x = nineOfOne();
            is(18, () -> x.takes(1));
            x.setIll(1, 4, true);
            is("16 2", () -> x.takes(1) + " " + x.takes(2));
            x.setIll(1, 0, true);
            x.setIll(2, 0, true);
            is("12 2 4", () -> x.takes(1) + " " + x.takes(2) + " " + x.takes(3));
            x.setIll(0, 0, false);
            // well again, but its own lessons are at these slots
            is("12 2 0 0", () -> x.takes(1) + " " + x.takes(2) + " " + x.takes(3) + " " + x.takes(0));
        });
        sentence("- `teacher`: 0 to 5", () -> {
            for (int i = 0; i < 6; i++) {
                int teacher = i;
                Schoolhours x = Schools.school("3T5-/2".replace("T", "" + (teacher + 1) % 6));
                Schools.put(x, 18);
                for (int other = 0; other < 6; other++) {
                    x.setIll(other, 4, other != teacher);
                }
                for (int j = 0; j < 6; j++) {
                    int asked = j;
                    is(asked == teacher ? 2 : 0, () -> x.takes(asked));
                }
            }
            Sentences.beyond(IAE, 0, 5, (x, teacher) -> x.takes(teacher));
        });
        sentence("Returns how often.", () -> {
            Schoolhours x = fullDay(4);
            is("0 0 0 0 4 4", () -> x.takes(0) + " " + x.takes(1) + " " + x.takes(2) + " " + x.takes(3) + " " + x.takes(4)
                + " " + x.takes(5));
            is("0 0", () -> fullDay(6).takes(5) + " " + fullDay(0).takes(5));
            Schoolhours empty = new Schoolhours();
            empty.find();
            is(0, () -> empty.takes(0));
        });
        sentence("Throws `IllegalArgumentException` if teacher is out of range", () -> {
            Sentences.refused(IAE, Sentences.ALL_SCHOOLS, x -> x.takes(6));
            Sentences.refused(IAE, Sentences.ALL_SCHOOLS, x -> x.takes(-1));
        });
        Sentences.asksTable(Sentences.WITHOUT_TABLE, x -> x.takes(5));
    }

    // ---- Exams.

    /** Exams that are apart, told as digits by twos. */
    private static Schoolhours apart(String pairs) {
        Schoolhours x = new Schoolhours();
        for (String pair : pairs.trim().split(" +")) {
            if (!pair.isEmpty()) {
                x.setApart(pair.charAt(0) - '0', pair.charAt(1) - '0', true);
            }
        }
        return x;
    }

    /** All pairs of the first so many exams. */
    private static String allOf(int exams) {
        StringBuilder pairs = new StringBuilder();
        for (String pair : ALL_APART.split(" ")) {
            if (pair.charAt(1) - '0' < exams) {
                pairs.append(pair).append(' ');
            }
        }
        return pairs.toString();
    }

    private static void setApart() {
        Sentences.part("Promise 30");
        sentence("Tells that two exams are apart, or are not.", () -> {
            Schoolhours x = new Schoolhours();
            x.setApart(2, 5, true);
            is("00000100", () -> Schools.examDays(x));
            x.setApart(5, 2, false);
            is("00000000", () -> Schools.examDays(x));
            is(1, x::undo);
            is("00000100", () -> Schools.examDays(x));
        });
        sentence("- `one`: 0 to 7", () -> {
            for (int i = 0; i < 8; i++) {
                onlyApart(i, (i + 1) % 8);
            }
            Sentences.beyond(IAE, 0, 7, (x, one) -> x.setApart(one, 0, true));
            Sentences.beyond(IAE, 0, 7, (x, one) -> x.setApart(one, 7, false));
        });
        sentence("- `other`: 0 to 7, another one", () -> {
            for (int place = 0; place < 64; place++) {
                int one = place / 8;
                int other = place % 8;
                if (one == other) {
                    Sentences.refused(IAE, Schools::full, x -> x.setApart(one, other, true));
                    Sentences.refused(IAE, Schools::full, x -> x.setApart(one, other, false));
                } else {
                    onlyApart(one, other);
                }
            }
            Sentences.beyond(IAE, 0, 7, (x, other) -> x.setApart(0, other, true));
            Sentences.beyond(IAE, 0, 7, (x, other) -> x.setApart(7, other, false));
        });
        sentence("- `areApart`: whether", () -> {
            Schoolhours x = new Schoolhours();
            for (boolean areApart : new boolean[] {false, true, true, false, true, false, false}) {
                x.setApart(0, 7, areApart);
                is(areApart ? 2 : 1, x::daysNeeded);
                x.setApart(7, 0, areApart);
                is(areApart ? 2 : 1, x::daysNeeded);
            }
        });
        sentence("Returns whether it was told that they are.", () -> {
            Schoolhours x = new Schoolhours();
            is(false, () -> x.setApart(6, 1, false));
            is(false, () -> x.setApart(6, 1, true));
            is(true, () -> x.setApart(1, 6, true));
            is(true, () -> x.setApart(6, 1, true));
            is(true, () -> x.setApart(1, 6, false));
            is(false, () -> x.setApart(6, 1, false));
            x.undo();
            x.undo();
            is(true, () -> x.setApart(6, 1, false));
        });
        sentence("Throws `IllegalArgumentException` if a number is out of range, or both are the same", () -> {
            Sentences.beyond(IAE, 0, 7, (x, both) -> x.setApart(both, both, true));
            Sentences.refused(IAE, Sentences.ALL_SCHOOLS, x -> x.setApart(8, -1, true));
            for (int i = 0; i < 8; i++) {
                int both = i;
                Sentences.refused(IAE, Sentences.ALL_SCHOOLS, x -> x.setApart(both, both, false));
            }
        });
    }

    /** Two exams are apart, in whatever order they are told, and no other two are. */
    private static void onlyApart(int one, int other) {
        Schoolhours x = new Schoolhours();
        is(false, () -> x.setApart(one, other, true));
        for (int i = 0; i < 64; i++) {
            int place = i;
            int least = Math.min(place / 8, place % 8);
            int greatest = Math.max(place / 8, place % 8);
            boolean isFirst = place / 8 < place % 8;
            if (isFirst) {
                boolean due = least == Math.min(one, other) && greatest == Math.max(one, other);
                is(due, () -> x.setApart(greatest, least, false));
            }
        }
    }

    private static void daysNeeded() {
        Sentences.part("Promise 31");
        sentence("Returns the days needed for the exams.", () -> {
            is(2, () -> apart("02 12 13 34").daysNeeded());
            is(3, () -> apart("01 12 23 34 40").daysNeeded());
            is(4, () -> apart("01 12 23 34 40 05 15 25 35 45").daysNeeded());
            // the way of four whose ends come first takes two days, not three
            is(2, () -> apart("02 23 13").daysNeeded());
        });
        sentence("Returns 1 to 8.", () -> {
            for (int i = 1; i <= 8; i++) {
                int due = i;
                is(due, () -> apart(allOf(due)).daysNeeded());
            }
            is(1, () -> new Schoolhours().daysNeeded());
            Schoolhours x = apart(ALL_APART);
            is(8, x::daysNeeded);
            x.setApart(6, 7, false);
            is(7, x::daysNeeded);
            x.undo();
            is(8, x::daysNeeded);
        });
    }

    private static void examDay() {
        Sentences.part("Promise 32");
        sentence("Returns the day of an exam in the plan.", () -> {
            is("01100000", () -> Schools.examDays(apart("02 23 13")));
            is("01012000", () -> Schools.examDays(apart("01 12 23 34 40")));
            is("00000001", () -> Schools.examDays(apart("67")));
            is("00000001", () -> Schools.examDays(apart("07")));
        });
        sentence("- `exam`: 0 to 7", () -> {
            Sentences.beyond(IAE, 0, 7, (x, exam) -> x.examDay(exam));
            for (int i = 0; i < 8; i++) {
                int exam = i;
                is(exam, () -> apart(ALL_APART).examDay(exam));
                is(0, () -> new Schoolhours().examDay(exam));
            }
        });
        sentence("Returns its day.", () -> {
            for (int i = 1; i <= 8; i++) {
                int exams = i;
                is("01234567".substring(0, exams) + "00000000".substring(exams),
                    () -> Schools.examDays(apart(allOf(exams))));
            }
        });
        sentence("Throws `IllegalArgumentException` if exam is out of range", () -> {
            Sentences.refused(IAE, Sentences.ALL_SCHOOLS, x -> x.examDay(8));
            Sentences.refused(IAE, Sentences.ALL_SCHOOLS, x -> x.examDay(-1));
        });
    }

    private static void group() {
        Sentences.part("Promise 33");
        sentence("Returns the greatest group of exams.", () -> {
            is(0b00000111, () -> apart("01 02 12 34 35").group());
            is(0b11100000, () -> apart("01 56 57 67").group());
            // of several the least sum as a set, not the least exam
            is(0b00001100, () -> apart("07 23 56").group());
            is(0b00111000, () -> apart("07 06 67 34 45 35").group());
        });
        sentence("Returns the set.", () -> {
            for (int i = 1; i <= 8; i++) {
                int exams = i;
                is((1 << exams) - 1, () -> apart(allOf(exams)).group());
            }
            is(1, () -> new Schoolhours().group());
            is(0b11000000, () -> apart("67").group());
            is(0b10000001, () -> apart("70").group());
        });
    }

    // ---- Bells.

    private static void setBells() {
        Sentences.part("Promise 34");
        sentence("Sets the bells of a day.", () -> {
            Schoolhours x = new Schoolhours();
            x.setBells(3, 500, 50, 5);
            is("480 535 590 645", () -> begins(x, 2));
            is("500 555 610 665", () -> begins(x, 3));
            is("480 535 590 645", () -> begins(x, 4));
            x.setBells(3, 480, 45, 10);
            is("480 535 590 645", () -> begins(x, 3));
        });
        sentence("- `day`: 0 to 4", () -> {
            for (int i = 0; i < 5; i++) {
                int day = i;
                Schoolhours x = new Schoolhours();
                is(540, () -> x.setBells(day, 420, 30, 0));
                for (int j = 0; j < 5; j++) {
                    int other = j;
                    is(other == day ? "420 450 480 510" : "480 535 590 645", () -> begins(x, other));
                }
            }
            Sentences.beyond(IAE, 0, 4, (x, day) -> x.setBells(day, 420, 30, 0));
        });
        sentence("- `begin`: 420 to 600", () -> {
            for (int i = 420; i <= 600; i++) {
                int begin = i;
                is(begin + 120, () -> new Schoolhours().setBells(4, begin, 30, 0));
            }
            Sentences.beyond(IAE, 420, 600, (x, begin) -> x.setBells(4, begin, 30, 0));
        });
        sentence("- `length`: 30 to 60", () -> {
            for (int i = 30; i <= 60; i++) {
                int length = i;
                is(600 + 4 * length, () -> new Schoolhours().setBells(0, 600, length, 0));
            }
            Sentences.beyond(IAE, 30, 60, (x, length) -> x.setBells(0, 600, length, 30));
        });
        sentence("- `pause`: 0 to 30", () -> {
            for (int i = 0; i <= 30; i++) {
                int pause = i;
                is(420 + 240 + 3 * pause, () -> new Schoolhours().setBells(2, 420, 60, pause));
            }
            Sentences.beyond(IAE, 0, 30, (x, pause) -> x.setBells(2, 420, 60, pause));
        });
        sentence("Returns the minute at which its last hour ends.", () -> {
            is(690, () -> new Schoolhours().setBells(0, 480, 45, 10));
            is(540, () -> new Schoolhours().setBells(0, 420, 30, 0));
            is(930, () -> new Schoolhours().setBells(4, 600, 60, 30));
            Schoolhours x = new Schoolhours();
            int end = x.setBells(1, 444, 33, 7);
            is(end, () -> x.bell(7, true));
            is(NONE, () -> x.slotAt(1, end));
            is(7, () -> x.slotAt(1, end - 1));
        });
        sentence(IN_RANGE, () -> {
            Sentences.refused(IAE, Sentences.ALL_SCHOOLS, x -> x.setBells(5, 601, 61, 31));
            Sentences.refused(IAE, Sentences.ALL_SCHOOLS, x -> x.setBells(-1, 419, 29, -1));
            Sentences.refused(IAE, Sentences.ALL_SCHOOLS, x -> x.setBells(0, 0, 0, 0));
        });
    }

    private static String begins(Schoolhours x, int day) {
        return x.bell(4 * day, false) + " " + x.bell(4 * day + 1, false) + " " + x.bell(4 * day + 2, false) + " "
            + x.bell(4 * day + 3, false);
    }

    private static void bell() {
        Sentences.part("Promise 35");
        sentence("Returns the minute at which an hour begins or ends.", () -> {
            Schoolhours x = new Schoolhours();
            is("480 525", () -> x.bell(0, false) + " " + x.bell(0, true));
            is("535 580", () -> x.bell(1, false) + " " + x.bell(1, true));
            is("590 635", () -> x.bell(2, false) + " " + x.bell(2, true));
            is("645 690", () -> x.bell(3, false) + " " + x.bell(3, true));
        });
        sentence("- `slot`: 0 to 19", () -> {
            Schoolhours x = new Schoolhours();
            for (int day = 0; day < 5; day++) {
                x.setBells(day, 420 + day, 30 + day, day);
            }
            for (int i = 0; i < 20; i++) {
                int slot = i;
                int due = 420 + slot / 4 + slot % 4 * (30 + 2 * (slot / 4));
                is(due, () -> x.bell(slot, false));
                is(due + 30 + slot / 4, () -> x.bell(slot, true));
            }
            Sentences.beyond(IAE, 0, 19, (y, slot) -> y.bell(slot, false));
            Sentences.beyond(IAE, 0, 19, (y, slot) -> y.bell(slot, true));
        });
        sentence("- `isEnd`: whether its end is asked", () -> {
            Schoolhours x = new Schoolhours();
            x.setBells(4, 600, 60, 30);
            is("870 930", () -> x.bell(19, false) + " " + x.bell(19, true));
            x.setBells(0, 420, 30, 0);
            // without a break an hour begins when the one ahead ends
            is("450 450", () -> x.bell(0, true) + " " + x.bell(1, false));
        });
        sentence("Returns the minute of the day.", () -> {
            is(480, () -> new Schoolhours().bell(16, false));
            is(690, () -> new Schoolhours().bell(19, true));
        });
        sentence("Throws `IllegalArgumentException` if slot is out of range", () -> {
            Sentences.refused(IAE, Sentences.ALL_SCHOOLS, x -> x.bell(20, true));
            Sentences.refused(IAE, Sentences.ALL_SCHOOLS, x -> x.bell(-1, false));
        });
    }

    private static void slotAt() {
        Sentences.part("Promise 36");
        sentence("Returns the slot that goes on at a minute.", () -> {
            is(0, () -> new Schoolhours().slotAt(0, 500));
            is(5, () -> new Schoolhours().slotAt(1, 550));
            is(NONE, () -> new Schoolhours().slotAt(1, 530));
            is(19, () -> new Schoolhours().slotAt(4, 650));
        });
        sentence("- `day`: 0 to 4", () -> {
            for (int i = 0; i < 5; i++) {
                int day = i;
                Schoolhours x = new Schoolhours();
                x.setBells(day, 600, 60, 30);
                is(NONE, () -> x.slotAt(day, 599));
                is(4 * day, () -> x.slotAt(day, 600));
                is(4 * ((day + 1) % 5) + 2, () -> x.slotAt((day + 1) % 5, 600));
            }
            Sentences.beyond(IAE, 0, 4, (x, day) -> x.slotAt(day, 480));
        });
        sentence("- `minute`: 0 to 1439", () -> {
            Sentences.beyond(IAE, 0, 1439, (x, minute) -> x.slotAt(0, minute));
            Sentences.beyond(IAE, 0, 1439, (x, minute) -> x.slotAt(4, minute));
            is(NONE, () -> new Schoolhours().slotAt(0, 0));
            is(NONE, () -> new Schoolhours().slotAt(4, 1439));
        });
        sentence("Returns the slot whose hour has begun by then, and has not ended (it has, at the minute of its end);"
            + " NONE without one.", () -> {
                minutesOfDay(0, 480, 45, 10);
                minutesOfDay(1, 420, 30, 0);
                minutesOfDay(2, 600, 60, 30);
                minutesOfDay(3, 500, 60, 0);
                minutesOfDay(4, 420, 30, 1);
            });
        sentence(IN_RANGE, () -> {
            Sentences.refused(IAE, Sentences.ALL_SCHOOLS, x -> x.slotAt(5, 1440));
            Sentences.refused(IAE, Sentences.ALL_SCHOOLS, x -> x.slotAt(-1, -1));
        });
    }

    private static void minutesOfDay(int day, int begin, int length, int pause) {
        Schoolhours x = new Schoolhours();
        for (int i = 0; i < 1440; i++) {
            if (i % 400 == 0) {
                x = new Schoolhours();
                x.setBells(day, begin, length, pause);
            }
            int minute = i;
            int since = minute - begin;
            int hour = since < 0 ? 4 : since / (length + pause);
            boolean isOn = hour < 4 && since % (length + pause) < length;
            Schoolhours asked = x;
            is(isOn ? 4 * day + hour : NONE, () -> asked.slotAt(day, minute));
        }
    }

    // ---- The year.

    private static int number(LocalDate date) {
        return date.getYear() * 10000 + date.getMonthValue() * 100 + date.getDayOfMonth();
    }

    private static LocalDate date(int number) {
        return LocalDate.of(number / 10000, number / 100 % 100, number % 100);
    }

    private static void noDates(Sentences.CallWith call) {
        for (int number : Schools.NO_DATES) {
            Sentences.refused(IAE, Sentences.ALL_SCHOOLS, x -> call.on(x, number));
        }
    }

    private static void setYear() {
        Sentences.part("Promise 37");
        sentence("Sets the date on which the year begins; holidays go.", () -> {
            Schoolhours x = new Schoolhours();
            for (int i = 0; i < 10; i++) {
                x.holiday(20260907 + i, 20260907 + i);
            }
            is(192, x::schoolDays);
            x.setYear(20260914);
            is(20260914, () -> x.dateOf(0));
            is(200, x::schoolDays);
            // there is room for ten again
            for (int i = 1; i <= 10; i++) {
                int due = i;
                is(due, () -> x.holiday(20260914, 20260914));
            }
            is(ISE, () -> x.holiday(20260914, 20260914));
            is(199, x::schoolDays);
            // also if the year is told as it was
            x.setYear(20260914);
            is(200, x::schoolDays);
            is(1, () -> x.holiday(20260914, 20260914));
        });
        sentence("- `date`: a Monday, from 20000101 to 20991231", () -> {
            int mondays = 0;
            for (LocalDate d = LocalDate.of(2000, 1, 1); d.getYear() < 2100; d = d.plusDays(1)) {
                int told = number(d);
                boolean isMonday = d.getDayOfWeek().getValue() == 1;
                mondays += isMonday ? 1 : 0;
                Schoolhours x = new Schoolhours();
                is(isMonday ? 20260907 : IAE, () -> x.setYear(told));
                is(isMonday ? told : 20260907, () -> x.dateOf(0));
            }
            int due = mondays;
            is(5218, () -> due);
            is(20260907, () -> new Schoolhours().setYear(20000103));
            is(20260907, () -> new Schoolhours().setYear(20991228));
            // the Mondays next beyond
            Sentences.refused(IAE, Sentences.ALL_SCHOOLS, x -> x.setYear(19991227));
            Sentences.refused(IAE, Sentences.ALL_SCHOOLS, x -> x.setYear(21000104));
        });
        sentence("Returns the date before.", () -> {
            Schoolhours x = new Schoolhours();
            is(20260907, () -> x.setYear(20000103));
            is(20000103, () -> x.setYear(20991228));
            is(20991228, () -> x.setYear(20240226));
            is(20240226, () -> x.setYear(20240226));
            is(IAE, () -> x.setYear(20240227));
            is(20240226, () -> x.setYear(20260907));
        });
        sentence(NO_SUCH_DATE, () -> {
            noDates((x, date) -> x.setYear(date));
            // the other days of a week
            for (int date = 20260908; date <= 20260913; date++) {
                int told = date;
                Sentences.refused(IAE, Sentences.ALL_SCHOOLS, x -> x.setYear(told));
            }
        });
    }

    private static void holiday() {
        Sentences.part("Promise 38");
        sentence("Tells holidays.", () -> {
            Schoolhours x = new Schoolhours();
            x.holiday(20260909, 20260910);
            is("0 1 -1 -1 2", () -> x.numberOf(20260907) + " " + x.numberOf(20260908) + " " + x.numberOf(20260909) + " "
                + x.numberOf(20260910) + " " + x.numberOf(20260911));
            is(NONE, x::undo);
            is(198, x::schoolDays);
        });
        sentence("- `from`: a date, from 20000101 to 20991231", () -> {
            holidays(199, 20000101, 20260907);
            holidays(0, 20000101, 20991231);
            holidays(0, 20260907, 20991231);
            holidays(1, 20260908, 20991231);
            holidays(199, 20270611, 20991231);
            holidays(200, 20270612, 20991231);
            holidays(200, 20991231, 20991231);
            noDates((x, from) -> x.holiday(from, 20991231));
            noDates((x, from) -> x.holiday(from, from));
            // the dates next beyond
            Sentences.refused(IAE, Sentences.ALL_SCHOOLS, x -> x.holiday(19991231, 20000101));
            Sentences.refused(IAE, Sentences.ALL_SCHOOLS, x -> x.holiday(21000101, 21000101));
        });
        sentence("- `to`: a date not ahead of it, up to 20991231", () -> {
            holidays(200, 20000101, 20000101);
            holidays(199, 20260907, 20260907);
            holidays(199, 20270611, 20270611);
            holidays(195, 20260907, 20260913);
            holidays(194, 20260907, 20260914);
            holidays(0, 20260907, 20270611);
            holidays(1, 20260907, 20270610);
            Sentences.refused(IAE, Sentences.ALL_SCHOOLS, x -> x.holiday(20260908, 20260907));
            Sentences.refused(IAE, Sentences.ALL_SCHOOLS, x -> x.holiday(20270101, 20261231));
            Sentences.refused(IAE, Sentences.ALL_SCHOOLS, x -> x.holiday(20991231, 20000101));
            noDates((x, to) -> x.holiday(20000101, to));
            Sentences.refused(IAE, Sentences.ALL_SCHOOLS, x -> x.holiday(20991231, 21000101));
        });
    }

    private static void holidays(int due, int from, int to) {
        Schoolhours x = new Schoolhours();
        is(1, () -> x.holiday(from, to));
        is(due, x::schoolDays);
    }

    private static void holidayExceptions() {
        sentence("Returns how many holidays were told.", () -> {
            Schoolhours x = new Schoolhours();
            int[] dates = {20260907, 20260907, 20260912, 20000101, 20991231, 20261225, 20261225, 20270613, 20270614,
                20270101};
            for (int i = 0; i < 10; i++) {
                int place = i;
                is(place + 1, () -> x.holiday(dates[place], dates[place]));
            }
            is(20260907, () -> x.setYear(20260907));
            is(1, () -> x.holiday(20260907, 20270611));
            is(2, () -> x.holiday(20260907, 20260907));
        });
        sentence("Throws `IllegalArgumentException` if one is no such date", () -> {
            // full: also if there are 10 already
            Sentences.refused(IAE, Schools::full, x -> x.holiday(20260229, 20260301));
            Sentences.refused(IAE, Schools::full, x -> x.holiday(20260228, 20260229));
            Sentences.refused(IAE, Schools::full, x -> x.holiday(20260302, 20260301));
            Sentences.refused(IAE, Schools::full, x -> x.holiday(Integer.MAX_VALUE, Integer.MIN_VALUE));
        });
        sentence("Throws `IllegalStateException` if there are 10", () -> {
            Sentences.refused(ISE, Schools::full, x -> x.holiday(20260907, 20260907));
            Sentences.refused(ISE, Schools::full, x -> x.holiday(20000101, 20991231));
            Schoolhours x = new Schoolhours();
            for (int i = 0; i < 9; i++) {
                x.holiday(20270611, 20270611);
            }
            is(10, () -> x.holiday(20270610, 20270610));
            is(198, x::schoolDays);
            is(ISE, () -> x.holiday(20270609, 20270609));
            is(198, x::schoolDays);
        });
    }

    private static void schoolDays() {
        Sentences.part("Promise 39");
        sentence("Counts the school days of the year.", () -> {
            Schoolhours x = new Schoolhours();
            x.holiday(20261221, 20270103);
            is(190, x::schoolDays);
            // those that overlap count once, Saturdays and Sundays never
            x.holiday(20261220, 20270104);
            is(189, x::schoolDays);
            x.holiday(20270109, 20270110);
            is(189, x::schoolDays);
        });
        sentence(HOW_MANY, () -> {
            is(200, () -> new Schoolhours().schoolDays());
            Schoolhours x = new Schoolhours();
            x.holiday(20260908, 20270611);
            is(1, x::schoolDays);
            x.holiday(20260907, 20260907);
            is(0, x::schoolDays);
            x.setYear(20991228);
            is(200, x::schoolDays);
            x.holiday(20991228, 20991231);
            is(196, x::schoolDays);
        });
    }

    private static void dateOf() {
        Sentences.part("Promise 40");
        sentence("Returns the date of a school day.", () -> {
            for (int begin : new int[] {20000103, 20260907, 20240226, 20991228}) {
                Schoolhours x = new Schoolhours();
                x.setYear(begin);
                for (int i = 0; i < 200; i++) {
                    int number = i;
                    is(number(date(begin).plusDays(number / 5 * 7 + number % 5)), () -> x.dateOf(number));
                }
            }
        });
        sentence("- `number`: number of a school day", () -> {
            is(20260907, () -> new Schoolhours().dateOf(0));
            is(20270611, () -> new Schoolhours().dateOf(199));
        });
        sentence("Returns its date.", () -> {
            Schoolhours x = new Schoolhours();
            x.holiday(20260907, 20260907);
            x.holiday(20260911, 20260914);
            is(20260908, () -> x.dateOf(0));
            is(20260910, () -> x.dateOf(2));
            is(20260915, () -> x.dateOf(3));
            is(20270611, () -> x.dateOf(196));
        });
        sentence("Throws `IndexOutOfBoundsException` if there is no such one", () -> {
            for (Supplier<Schoolhours> made : Sentences.ALL_SCHOOLS) {
                for (int number : Sentences.beyond(0, made.get().schoolDays() - 1)) {
                    Sentences.refused(IOOBE, made, x -> x.dateOf(number));
                }
            }
            Schoolhours x = new Schoolhours();
            x.holiday(20260908, 20270611);
            is(20260907, () -> x.dateOf(0));
            is(IOOBE, () -> x.dateOf(1));
            x.holiday(20260907, 20260907);
            is(IOOBE, () -> x.dateOf(0));
            is(IOOBE, () -> x.dateOf(-1));
        });
    }

    private static void numberOf() {
        Sentences.part("Promise 41");
        sentence("Returns the number of a school day.", () -> {
            Schoolhours x = new Schoolhours();
            for (int i = 0; i < 200; i++) {
                int number = i;
                int date = x.dateOf(number);
                is(number, () -> x.numberOf(date));
            }
        });
        sentence(A_DATE, () -> {
            is(NONE, () -> new Schoolhours().numberOf(20000101));
            is(NONE, () -> new Schoolhours().numberOf(20991231));
            Schoolhours x = new Schoolhours();
            x.setYear(20000103);
            is(NONE, () -> x.numberOf(20000101));
            is(0, () -> x.numberOf(20000103));
            x.setYear(20991228);
            is(3, () -> x.numberOf(20991231));
            is(NONE, () -> x.numberOf(20991227));
        });
        sentence("Returns its number; NONE if it is none.", () -> {
            Schoolhours x = new Schoolhours();
            x.holiday(20260908, 20260909);
            is("0 -1 -1 1 2 -1 -1 3", () -> {
                StringBuilder text = new StringBuilder();
                for (int date = 20260907; date <= 20260914; date++) {
                    text.append(date == 20260907 ? "" : " ").append(x.numberOf(date));
                }
                return text.toString();
            });
            is("197 -1 -1 -1", () -> x.numberOf(20270611) + " " + x.numberOf(20270612) + " " + x.numberOf(20270613) + " "
                + x.numberOf(20270614));
            is("-1 -1", () -> x.numberOf(20260904) + " " + x.numberOf(20260906));
        });
        sentence(NO_SUCH_DATE, () -> noDates((x, date) -> x.numberOf(date)));
    }

    private static void nextDay() {
        Sentences.part("Promise 42");
        sentence("Returns the first school day behind a date.", () -> {
            Schoolhours x = new Schoolhours();
            is(20260908, () -> x.nextDay(20260907));
            is(20260914, () -> x.nextDay(20260911));
            is(20260914, () -> x.nextDay(20260912));
            is(20260914, () -> x.nextDay(20260913));
            is(20260915, () -> x.nextDay(20260914));
            x.holiday(20260909, 20260914);
            is(20260915, () -> x.nextDay(20260908));
            is(20260915, () -> x.nextDay(20260911));
            is(20260915, () -> x.nextDay(20260914));
        });
        sentence(A_DATE, () -> {
            is(20260907, () -> new Schoolhours().nextDay(20000101));
            is(NONE, () -> new Schoolhours().nextDay(20991231));
            Schoolhours x = new Schoolhours();
            x.setYear(20991228);
            is(20991231, () -> x.nextDay(20991230));
            // the day behind the last date that can be told
            is(21000101, () -> x.nextDay(20991231));
        });
        sentence("Returns its date; NONE if there is none.", () -> {
            Schoolhours x = new Schoolhours();
            is(20260907, () -> x.nextDay(20260906));
            is(20270611, () -> x.nextDay(20270610));
            is(NONE, () -> x.nextDay(20270611));
            is(NONE, () -> x.nextDay(20270614));
            x.holiday(20270601, 20991231);
            is(NONE, () -> x.nextDay(20270531));
            is(20270531, () -> x.nextDay(20270530));
            x.holiday(20000101, 20270531);
            is(NONE, () -> x.nextDay(20000101));
        });
        sentence(NO_SUCH_DATE, () -> noDates((x, date) -> x.nextDay(date)));
    }

    private static void weekOf() {
        Sentences.part("Promise 43");
        sentence("Tells about the week of a date.", () -> {
            Schoolhours x = new Schoolhours();
            x.holiday(20260914, 20260918);
            x.holiday(20260922, 20260923);
            is("0 0 5", () -> week(x, 20260907));
            is("1 -1 0", () -> week(x, 20260916));
            is("2 1 3", () -> week(x, 20260922));
            is("3 0 5", () -> week(x, 20260930));
        });
        sentence(A_DATE, () -> {
            is("-1 -1 -1", () -> week(new Schoolhours(), 20000101));
            is("-1 -1 -1", () -> week(new Schoolhours(), 20991231));
            Schoolhours x = new Schoolhours();
            x.setYear(20991228);
            is("0 0 5", () -> week(x, 20991231));
            is("-1 -1 -1", () -> week(x, 20991227));
        });
        sentence("- `what`: 0 the number of the week in the year, from 0, 1 0 if it is A, 1 if it is B, 2 its school"
            + " days", () -> {
                Schoolhours x = new Schoolhours();
                for (int i = 0; i < 40; i++) {
                    int week = i;
                    LocalDate monday = LocalDate.of(2026, 9, 7).plusDays(7 * week);
                    // Saturday and Sunday belong to it, too
                    is(week + " " + week % 2 + " 5", () -> week(x, number(monday)));
                    is(week + " " + week % 2 + " 5", () -> week(x, number(monday.plusDays(6))));
                }
                for (int day = 0; day < 5; day++) {
                    int due = 4 - day;
                    x.holiday(20260914 + day, 20260914 + day);
                    is(due, () -> x.weekOf(20260914, 2));
                }
            });
    }

    private static String week(Schoolhours x, int date) {
        return x.weekOf(date, 0) + " " + x.weekOf(date, 1) + " " + x.weekOf(date, 2);
    }

    private static void weekOfExceptions() {
        sentence("Returns what is asked; NONE if the date is in no week of the year (of 1 also if it is no school week).",
            () -> {
                Schoolhours x = new Schoolhours();
                is("-1 -1 -1", () -> week(x, 20260906));
                is("39 1 5", () -> week(x, 20270613));
                is("-1 -1 -1", () -> week(x, 20270614));
                x.holiday(20260907, 20260911);
                is("0 -1 0", () -> week(x, 20260907));
                is("0 -1 0", () -> week(x, 20260913));
                is("1 0 5", () -> week(x, 20260914));
                x.holiday(20000101, 20991231);
                is("39 -1 0", () -> week(x, 20270613));
                is("-1 -1 -1", () -> week(x, 20270614));
            });
        sentence("Throws `IllegalArgumentException` if it is no such date, or what is out of range", () -> {
            for (int what = 0; what < 3; what++) {
                int asked = what;
                noDates((x, date) -> x.weekOf(date, asked));
            }
            Sentences.beyond(IAE, 0, 2, (x, what) -> x.weekOf(20260907, what));
            // also for a date in no week of the year
            Sentences.beyond(IAE, 0, 2, (x, what) -> x.weekOf(20000101, what));
            Sentences.refused(IAE, Sentences.ALL_SCHOOLS, x -> x.weekOf(0, 3));
        });
    }

    private static void dayOfWeek() {
        Sentences.part("Promise 44");
        sentence("Returns the day of the week of a date.", () -> {
            for (int i = 0; i < 7; i++) {
                int day = i;
                is(day, () -> new Schoolhours().dayOfWeek(20260907 + day));
                is(day, () -> new Schoolhours().dayOfWeek(20000103 + day));
            }
            is(1, () -> new Schoolhours().dayOfWeek(20000229));
            is(3, () -> new Schoolhours().dayOfWeek(20240229));
        });
        sentence(A_DATE, () -> {
            is(5, () -> new Schoolhours().dayOfWeek(20000101));
            is(3, () -> new Schoolhours().dayOfWeek(20991231));
            lastDaysOfMonths();
        });
        sentence("Returns 0 for Monday to 6 for Sunday.", () -> {
            is(0, () -> new Schoolhours().dayOfWeek(20260907));
            is(6, () -> new Schoolhours().dayOfWeek(20260906));
            is(6, () -> new Schoolhours().dayOfWeek(20260913));
        });
        sentence(NO_SUCH_DATE, () -> noDates((x, date) -> x.dayOfWeek(date)));
    }

    /** Of each month of all years the last day is a date, and the numbers next beyond it are none. */
    private static void lastDaysOfMonths() {
        for (int i = 0; i < 1200; i++) {
            LocalDate first = LocalDate.of(2000, 1, 1).plusMonths(i);
            int month = number(first) - 1;
            int length = first.lengthOfMonth();
            Schoolhours x = new Schoolhours();
            is(first.getDayOfWeek().getValue() - 1, () -> x.dayOfWeek(month + 1));
            is((first.getDayOfWeek().getValue() - 1 + length - 1) % 7, () -> x.dayOfWeek(month + length));
            is(IAE, () -> x.dayOfWeek(month));
            is(IAE, () -> x.dayOfWeek(month + length + 1));
            is(IAE, () -> x.dayOfWeek(month + 32));
            is(IAE, () -> x.dayOfWeek(month + 99));
        }
    }

    private static void later() {
        Sentences.part("Promise 45");
        sentence("Returns the date so many days behind a date, or ahead of it.", () -> {
            is(20260908, () -> new Schoolhours().later(20260907, 1));
            is(20260906, () -> new Schoolhours().later(20260907, -1));
            is(20240229, () -> new Schoolhours().later(20240228, 1));
            is(20260301, () -> new Schoolhours().later(20260228, 1));
            is(20000229, () -> new Schoolhours().later(20000301, -1));
            is(20270101, () -> new Schoolhours().later(20261231, 1));
            // holidays and the year do not matter
            is(20991231, () -> Schools.full().later(20991230, 1));
        });
        sentence(A_DATE, () -> {
            is(20000102, () -> new Schoolhours().later(20000101, 1));
            is(20991230, () -> new Schoolhours().later(20991231, -1));
            noDates((x, date) -> x.later(date, 0));
            noDates((x, date) -> x.later(date, 1));
        });
        sentence("- `days`: -1000 to 1000", () -> {
            for (int i = -1000; i <= 1000; i++) {
                int days = i;
                Schoolhours x = new Schoolhours();
                for (int date : new int[] {20000101, 20240229, 20260907, 20991231}) {
                    is(number(date(date).plusDays(days)), () -> x.later(date, days));
                }
            }
            Sentences.beyond(IAE, -1000, 1000, (x, days) -> x.later(20260907, days));
            Sentences.beyond(IAE, -1000, 1000, (x, days) -> x.later(20000101, days));
        });
        sentence("Returns the date, perhaps beyond these.", () -> {
            is(19991231, () -> new Schoolhours().later(20000101, -1));
            is(21000101, () -> new Schoolhours().later(20991231, 1));
            is(19970406, () -> new Schoolhours().later(20000101, -1000));
            is(21020927, () -> new Schoolhours().later(20991231, 1000));
            // 2100 is no leap year
            is(21000228, () -> new Schoolhours().later(20991231, 59));
            is(21000301, () -> new Schoolhours().later(20991231, 60));
        });
        sentence("Throws `IllegalArgumentException` if it is no such date, or days is out of range", () -> {
            Sentences.refused(IAE, Sentences.ALL_SCHOOLS, x -> x.later(20260907, 1001));
            Sentences.refused(IAE, Sentences.ALL_SCHOOLS, x -> x.later(20260907, -1001));
            Sentences.refused(IAE, Sentences.ALL_SCHOOLS, x -> x.later(20260931, 1001));
            // what was answered beyond these cannot be asked from
            Sentences.refused(IAE, Sentences.ALL_SCHOOLS, x -> x.later(21000101, -1));
            Sentences.refused(IAE, Sentences.ALL_SCHOOLS, x -> x.later(19991231, 1));
        });
    }

    private static void lostLessons() {
        Sentences.part("Promise 46");
        sentence("Counts the lessons of a class that are lost in the year.", () -> {
            Schoolhours x = Schools.school("000-/2 011- 122-");
            Schools.put(x, 0, 4, 3);
            x.holiday(20260907, 20260908);
            is("2 1 0 0", () -> lost(x));
            x.holiday(20261001, 20261005);
            is("3 2 0 0", () -> lost(x));
            x.move(1, 7);
            is("3 2 0 0", () -> lost(x));
            x.move(1, 8);
            is("2 2 0 0", () -> lost(x));
        });
        sentence("- `group`: 0 to 3, a class", () -> {
            for (int i = 0; i < 4; i++) {
                int group = i;
                Schoolhours x = Schools.school("G00-".replace("G", "" + group));
                x.find();
                x.holiday(20260907, 20260907);
                for (int j = 0; j < 4; j++) {
                    int asked = j;
                    is(asked == group ? 1 : 0, () -> x.lostLessons(asked));
                }
            }
            Sentences.beyond(IAE, 0, 3, (x, group) -> x.lostLessons(group));
        });
        sentence(HOW_MANY, () -> {
            Schoolhours x = Schools.school("000- 011- 022- 033- 044- 055- 001- 012- 023-");
            Schools.put(x, 0, 1, 2, 3, 4, 5, 6, 7, 8);
            is("0 0 0 0", () -> lost(x));
            x.holiday(20260907, 20260907);
            is("4 0 0 0", () -> lost(x));
            x.holiday(20000101, 20991231);
            is("360 0 0 0", () -> lost(x));
            // the first and the last date of the year; beyond it nothing is lost
            Schoolhours y = Schools.school("000- 011-");
            Schools.put(y, 3, 16);
            y.holiday(20270611, 20270611);
            y.holiday(20270614, 20270614);
            y.holiday(20260904, 20260904);
            is("1 0 0 0", () -> lost(y));
            y.holiday(20260907, 20260907);
            is("2 0 0 0", () -> lost(y));
            Schoolhours empty = new Schoolhours();
            empty.find();
            empty.holiday(20000101, 20991231);
            is("0 0 0 0", () -> lost(empty));
        });
        sentence("Throws `IllegalArgumentException` if group is out of range", () -> {
            Sentences.refused(IAE, Sentences.ALL_SCHOOLS, x -> x.lostLessons(4));
            Sentences.refused(IAE, Sentences.ALL_SCHOOLS, x -> x.lostLessons(-1));
        });
        Sentences.asksTable(Sentences.WITHOUT_TABLE, x -> x.lostLessons(3));
    }

    private static String lost(Schoolhours x) {
        return x.lostLessons(0) + " " + x.lostLessons(1) + " " + x.lostLessons(2) + " " + x.lostLessons(3);
    }
}
