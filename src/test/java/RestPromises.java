import java.time.DayOfWeek;
import java.time.LocalDate;
import java.util.concurrent.Callable;

/** Promises 26 to 57: illness, exams, bells, the year, texts, undo, figures and second ways. */
public final class RestPromises {
    private static final Class<?> IAE = IllegalArgumentException.class;
    private static final Class<?> ISE = IllegalStateException.class;
    private static final Class<?> IOOBE = IndexOutOfBoundsException.class;
    private static final int NONE = Schoolhours.NONE;

    private static int promise;
    private static int asked;
    private static int wrong;

    public static void main(String[] args) {
        Runnable[] tests = {RestPromises::setIll, RestPromises::ill, RestPromises::substitute, RestPromises::takes,
            RestPromises::setApart, RestPromises::daysNeeded, RestPromises::examDay, RestPromises::group,
            RestPromises::setBells, RestPromises::bell, RestPromises::slotAt, RestPromises::setYear,
            RestPromises::holiday, RestPromises::schoolDays, RestPromises::dateOf, RestPromises::numberOf,
            RestPromises::nextDay, RestPromises::weekOf, RestPromises::dayOfWeek, RestPromises::later,
            RestPromises::lostLessons, RestPromises::append, RestPromises::clearTape, RestPromises::read,
            RestPromises::errorPosition, RestPromises::write, RestPromises::writtenAt, RestPromises::undo,
            RestPromises::checksum, RestPromises::meanSlot, RestPromises::taken, RestPromises::errors};
        for (int i = 0; i < tests.length; i++) {
            promise = i + 26;
            tests[i].run();
        }
        System.out.println("promises 26 to " + promise + ": " + asked + " answers, " + wrong + " wrong");
        System.exit(wrong == 0 ? 0 : 1);
    }

    private static void is(Object due, Callable<Object> call) {
        asked++;
        Object got;
        try {
            got = call.call();
        } catch (Exception e) {
            got = e.getClass();
        }
        if (!due.equals(got)) {
            wrong++;
            int line = new Throwable().getStackTrace()[1].getLineNumber();
            System.out.println("promise " + promise + ", line " + line + ": answered " + got + ", due is " + due);
        }
    }

    /** Lessons told as rows of class, teacher, subject, kind and 1 if double. */
    private static Schoolhours school(int[]... rows) {
        Schoolhours x = new Schoolhours();
        for (int[] r : rows) {
            x.lesson(r[0], r[1], r[2], r[3], r[4] == 1);
        }
        return x;
    }

    private static int[] row(int... cells) {
        return cells;
    }

    private static String table(Schoolhours x) {
        StringBuilder text = new StringBuilder();
        for (int lesson = 0; lesson < x.lessons(); lesson++) {
            text.append(lesson == 0 ? "" : " ").append(x.slotOf(lesson));
        }
        return text.toString();
    }

    private static void type(Schoolhours x, String text) {
        for (char c : text.toCharArray()) {
            x.append(c, 0, 0, 0, 0);
        }
    }

    private static Object readText(Schoolhours x, String text) throws Exception {
        x.clearTape();
        type(x, text);
        return x.read();
    }

    // ---- Illness.

    private static void setIll() {
        Schoolhours x = school(row(0, 0, 0, NONE, 0));
        x.find();
        is(IAE, () -> x.setIll(-1, 0, true));
        is(IAE, () -> x.setIll(6, 0, true));
        is(IAE, () -> x.setIll(0, -1, true));
        is(IAE, () -> x.setIll(0, 5, false));
        is(false, () -> x.setIll(0, 0, true));
        is(true, () -> x.setIll(0, 0, true));
        is(true, () -> x.setIll(0, 0, false));
        is(false, () -> x.setIll(0, 0, false));
        is(false, () -> x.setIll(5, 4, true));
        is(false, () -> x.setIll(5, 3, true));
        is(false, () -> x.setIll(4, 4, true));
        is(true, () -> x.setIll(5, 4, true));
        // the table stays, and each telling is a change
        is(0, x::cost);
        is(9, x::undo);
    }

    private static void ill() {
        Schoolhours x = school(row(0, 0, 0, NONE, 1), row(1, 1, 1, NONE, 0), row(0, 0, 2, NONE, 0));
        is(IAE, () -> x.ill(-1, true));
        is(IAE, () -> x.ill(5, false));
        is(ISE, () -> x.ill(0, true));
        x.find();
        is("0 0 2", () -> table(x));
        is(0, () -> x.ill(0, false));
        x.setIll(0, 0, true);
        is(3, () -> x.ill(0, false));
        is(0, () -> x.ill(0, true));
        is(0, () -> x.ill(1, false));
        for (int teacher = 2; teacher < 6; teacher++) {
            x.setSubjects(teacher, 0);
        }
        x.setSubjects(1, 0b000011);
        is(ISE, () -> x.ill(0, true));
        x.find();
        // teacher 1 teaches at slot 0, can take slot 1, and cannot teach subject 2 at slot 2
        is(3, () -> x.ill(0, false));
        is(2, () -> x.ill(0, true));
        x.setIll(1, 0, true);
        is(4, () -> x.ill(0, false));
        is(4, () -> x.ill(0, true));
    }

    private static void substitute() {
        Schoolhours x = school(row(0, 0, 0, NONE, 0), row(1, 1, 1, NONE, 0), row(2, 2, 2, NONE, 1));
        is(IOOBE, () -> x.substitute(3, 0));
        is(IOOBE, () -> x.substitute(-1, 20));
        is(IAE, () -> x.substitute(0, 20));
        is(IAE, () -> x.substitute(0, -1));
        is(ISE, () -> x.substitute(0, 0));
        x.find();
        is(NONE, () -> x.substitute(0, 0));
        x.setIll(0, 0, true);
        x.setIll(1, 0, true);
        x.setIll(2, 0, true);
        is(3, () -> x.substitute(0, 0));
        is(4, () -> x.substitute(1, 0));
        is(5, () -> x.substitute(2, 0));
        is(3, () -> x.substitute(2, 1));
        is(NONE, () -> x.substitute(0, 1));
        is(NONE, () -> x.substitute(2, 2));
        // teacher 3 alone can take lesson 2, so lesson 0 gets the next one: most lessons go ahead
        x.setSubjects(4, 0b000011);
        x.setSubjects(5, 0b000010);
        x.find();
        is("0 0 0", () -> table(x));
        is(4, () -> x.substitute(0, 0));
        is(5, () -> x.substitute(1, 0));
        is(3, () -> x.substitute(2, 0));
        // one too many: the lessons with the lesser numbers get the lesser teachers
        x.setIll(5, 0, true);
        is(3, () -> x.substitute(0, 0));
        is(4, () -> x.substitute(1, 0));
        is(NONE, () -> x.substitute(2, 0));
        is(3, () -> x.substitute(2, 1));
        // a teacher who is ill on another day alone can help
        x.setIll(5, 0, false);
        x.setIll(5, 1, true);
        is(5, () -> x.substitute(1, 0));
        mostGoAhead();
    }

    /** Plans with the most lessons, though a lesser teacher is free for a lesser lesson. */
    private static void mostGoAhead() {
        // nobody can take lesson 0; lesson 1 leaves teacher 0 to lesson 2
        Schoolhours x = school(row(0, 3, 5, NONE, 0), row(1, 4, 0, NONE, 0), row(2, 5, 1, NONE, 0));
        x.setSubjects(0, 0b000011);
        x.setSubjects(1, 0b000001);
        x.setSubjects(2, 0);
        x.find();
        for (int teacher = 3; teacher < 6; teacher++) {
            x.setIll(teacher, 0, true);
        }
        is("-1 1 0", () -> substitutes(x));
        is(1, () -> x.ill(0, true));
        x.setIll(1, 0, true);
        is("-1 0 -1", () -> substitutes(x));
        // a way over three teachers
        Schoolhours y = school(row(0, 3, 0, NONE, 0), row(1, 4, 1, NONE, 0), row(2, 5, 2, NONE, 0));
        y.setSubjects(0, 0b000111);
        y.setSubjects(1, 0b000011);
        y.setSubjects(2, 0b000001);
        y.find();
        for (int teacher = 3; teacher < 6; teacher++) {
            y.setIll(teacher, 0, true);
        }
        is("2 1 0", () -> substitutes(y));
        y.setSubjects(2, 0);
        y.find();
        is("0 1 -1", () -> substitutes(y));
    }

    private static String substitutes(Schoolhours x) {
        return x.substitute(0, 0) + " " + x.substitute(1, 0) + " " + x.substitute(2, 0);
    }

    private static void takes() {
        Schoolhours x = school(row(0, 0, 0, NONE, 1), row(0, 0, 0, NONE, 0), row(1, 1, 0, NONE, 0));
        is(IAE, () -> x.takes(-1));
        is(IAE, () -> x.takes(6));
        is(ISE, () -> x.takes(0));
        x.find();
        is("0 4 0", () -> table(x));
        is(0, () -> x.takes(1));
        x.setIll(0, 0, true);
        x.setIll(0, 1, true);
        // at slot 0 teacher 1 teaches, so teacher 2 takes it
        is(2, () -> x.takes(1));
        is(1, () -> x.takes(2));
        is(0, () -> x.takes(3));
        is(0, () -> x.takes(0));
        x.setIll(1, 1, true);
        is(1, () -> x.takes(1));
        is(2, () -> x.takes(2));
    }

    // ---- Exams.

    private static void setApart() {
        Schoolhours x = new Schoolhours();
        x.find();
        is(IAE, () -> x.setApart(-1, 0, true));
        is(IAE, () -> x.setApart(8, 0, true));
        is(IAE, () -> x.setApart(0, -1, true));
        is(IAE, () -> x.setApart(0, 8, true));
        is(IAE, () -> x.setApart(3, 3, true));
        is(false, () -> x.setApart(7, 3, true));
        is(true, () -> x.setApart(3, 7, true));
        is(2, x::daysNeeded);
        is(true, () -> x.setApart(3, 7, false));
        is(false, () -> x.setApart(7, 3, false));
        is(1, x::daysNeeded);
        is(0, x::cost);
        is(4, x::undo);
    }

    /** Exams that are apart, told as digits by twos. */
    private static Schoolhours exams(String pairs) {
        Schoolhours x = new Schoolhours();
        for (String pair : pairs.split(" ")) {
            x.setApart(pair.charAt(0) - '0', pair.charAt(1) - '0', true);
        }
        return x;
    }

    private static final String RING = "01 12 23 34 40";
    private static final String ALL = "01 02 03 04 05 06 07 12 13 14 15 16 17 23 24 25 26 27 34 35 36 37 45 46 47"
        + " 56 57 67";
    /** The graph of Grotzsch without some: a ring of five with a wheel, four days without a group of four. */
    private static final String WHEEL = RING + " 05 15 25 35 45";

    private static String daysOf(Schoolhours x) {
        StringBuilder text = new StringBuilder();
        for (int exam = 0; exam < 8; exam++) {
            text.append(x.examDay(exam));
        }
        return text.toString();
    }

    private static void daysNeeded() {
        is(1, () -> new Schoolhours().daysNeeded());
        is(2, () -> exams("06").daysNeeded());
        is(3, () -> exams(RING).daysNeeded());
        is(4, () -> exams(WHEEL).daysNeeded());
        is(8, () -> exams(ALL).daysNeeded());
        Schoolhours x = exams(ALL);
        x.setApart(0, 7, false);
        is(7, x::daysNeeded);
        x.undo();
        is(8, x::daysNeeded);
        // two parts whose exams in their order would take more days one by one
        is(2, () -> exams("02 12 13 34").daysNeeded());
    }

    private static void examDay() {
        is(IAE, () -> new Schoolhours().examDay(-1));
        is(IAE, () -> new Schoolhours().examDay(8));
        is("00000000", () -> daysOf(new Schoolhours()));
        is("01234567", () -> daysOf(exams(ALL)));
        is("01012000", () -> daysOf(exams(RING)));
        is("01012300", () -> daysOf(exams(WHEEL)));
        is("01100000", () -> daysOf(exams("01 02 13 23")));
        is("00110000", () -> daysOf(exams("03 13 12")));
        // if each exam took the least day that is free, the last of this way would need a third one
        is("01100000", () -> daysOf(exams("02 23 13")));
        is(2, () -> exams("02 23 13").daysNeeded());
    }

    private static void group() {
        is(1, () -> new Schoolhours().group());
        is(0b01000001, () -> exams("06").group());
        is(0b00000011, () -> exams(RING).group());
        is(0b00100011, () -> exams(WHEEL).group());
        is(0b11111111, () -> exams(ALL).group());
        is(0b10000001, () -> exams("07").group());
        is(0b00001100, () -> exams("07 23 56").group());
        is(0b11100000, () -> exams("01 56 57 67").group());
    }

    // ---- Bells.

    private static void setBells() {
        Schoolhours x = new Schoolhours();
        int[][] outOfRange = {{-1, 480, 45, 10}, {5, 480, 45, 10}, {0, 419, 45, 10}, {0, 601, 45, 10},
            {0, 480, 29, 10}, {0, 480, 61, 10}, {0, 480, 45, -1}, {0, 480, 45, 31}};
        for (int[] b : outOfRange) {
            is(IAE, () -> x.setBells(b[0], b[1], b[2], b[3]));
        }
        is(690, () -> x.setBells(0, 480, 45, 10));
        is(420 + 120, () -> x.setBells(0, 420, 30, 0));
        is(600 + 240 + 90, () -> x.setBells(4, 600, 60, 30));
        is(450, () -> x.bell(1, false));
        is(480, () -> x.bell(4, false));
        is(690, () -> x.bell(17, false));
        // bells are no change
        is(NONE, x::undo);
        is(930, () -> x.bell(19, true));
    }

    private static void bell() {
        Schoolhours x = new Schoolhours();
        is(IAE, () -> x.bell(-1, false));
        is(IAE, () -> x.bell(20, true));
        is(480, () -> x.bell(16, false));
        is(535, () -> x.bell(1, false));
        is(580, () -> x.bell(1, true));
        is(645, () -> x.bell(3, false));
        is(690, () -> x.bell(19, true));
        x.setBells(2, 500, 40, 5);
        is(500, () -> x.bell(8, false));
        is(545, () -> x.bell(9, false));
        is(585, () -> x.bell(9, true));
        is(675, () -> x.bell(11, true));
        is(480, () -> x.bell(12, false));
        is(690, () -> x.bell(7, true));
    }

    private static void slotAt() {
        Schoolhours x = new Schoolhours();
        is(IAE, () -> x.slotAt(-1, 0));
        is(IAE, () -> x.slotAt(5, 0));
        is(IAE, () -> x.slotAt(0, -1));
        is(IAE, () -> x.slotAt(0, 1440));
        is(NONE, () -> x.slotAt(0, 0));
        is(NONE, () -> x.slotAt(0, 1439));
        is(NONE, () -> x.slotAt(1, 479));
        is(4, () -> x.slotAt(1, 480));
        is(4, () -> x.slotAt(1, 524));
        is(NONE, () -> x.slotAt(1, 525));
        is(NONE, () -> x.slotAt(1, 534));
        is(5, () -> x.slotAt(1, 535));
        is(7, () -> x.slotAt(1, 689));
        is(NONE, () -> x.slotAt(1, 690));
        x.setBells(4, 420, 30, 0);
        is(16, () -> x.slotAt(4, 449));
        is(17, () -> x.slotAt(4, 450));
        is(19, () -> x.slotAt(4, 539));
        is(NONE, () -> x.slotAt(4, 540));
    }

    // ---- The year.

    private static final int[] NO_DATES = {0, -1, 19991231, 21000101, 20260231, 20250229, 20260431, 20260011,
        20261301, 20260100, 20260132, 20261131, 2026907, 202609070, Integer.MIN_VALUE, Integer.MAX_VALUE,
        -20260907, 20260199, 20269907};

    private static void setYear() {
        Schoolhours x = new Schoolhours();
        for (int date : NO_DATES) {
            is(IAE, () -> x.setYear(date));
        }
        is(IAE, () -> x.setYear(20260908));
        is(IAE, () -> x.setYear(20260906));
        is(IAE, () -> x.setYear(20000101));
        is(20260907, () -> x.setYear(20000103));
        is(20000103, () -> x.setYear(20991228));
        is(20991228, () -> x.dateOf(0));
        is(21000101, () -> x.dateOf(4));
        is(21001001, () -> x.dateOf(199));
        is(0, () -> x.numberOf(20991228));
        is(3, () -> x.numberOf(20991231));
        is(21000101, () -> x.nextDay(20991231));
        is(20991228, () -> x.setYear(20240101));
        for (int i = 0; i < 10; i++) {
            x.holiday(20240101, 20240101);
        }
        is(ISE, () -> x.holiday(20240101, 20240101));
        is(199, x::schoolDays);
        is(20240101, () -> x.setYear(20240101));
        is(200, x::schoolDays);
        is(1, () -> x.holiday(20240229, 20240229));
        is(NONE, x::undo);
    }

    private static void holiday() {
        Schoolhours x = new Schoolhours();
        for (int date : NO_DATES) {
            is(IAE, () -> x.holiday(date, 20991231));
            is(IAE, () -> x.holiday(20000101, date));
        }
        is(IAE, () -> x.holiday(20260908, 20260907));
        is(200, x::schoolDays);
        is(1, () -> x.holiday(20260908, 20260908));
        is(2, () -> x.holiday(20260911, 20260914));
        is(197, x::schoolDays);
        is(3, () -> x.holiday(20260908, 20260909));
        is(196, x::schoolDays);
        // holidays beyond the year count, too
        is(4, () -> x.holiday(20000101, 20000101));
        is(5, () -> x.holiday(20991231, 20991231));
        is(6, () -> x.holiday(20000101, 20260907));
        is(195, x::schoolDays);
        is(7, () -> x.holiday(20270609, 20991231));
        is(192, x::schoolDays);
        is(8, () -> x.holiday(20261010, 20261011));
        is(192, x::schoolDays);
        is(9, () -> x.holiday(20000101, 20991231));
        is(0, x::schoolDays);
        is(10, () -> x.holiday(20260907, 20260907));
        is(ISE, () -> x.holiday(20260907, 20260907));
        is(IAE, () -> x.holiday(20260907, 20260906));
        is(NONE, x::undo);
        is(0, x::schoolDays);
    }

    private static void schoolDays() {
        Schoolhours x = new Schoolhours();
        is(200, x::schoolDays);
        x.holiday(20261221, 20270103);
        is(190, x::schoolDays);
        x.holiday(20270101, 20270104);
        is(189, x::schoolDays);
        x.setYear(20260907);
        is(200, x::schoolDays);
    }

    private static void dateOf() {
        Schoolhours x = new Schoolhours();
        is(IOOBE, () -> x.dateOf(-1));
        is(IOOBE, () -> x.dateOf(200));
        is(IOOBE, () -> x.dateOf(Integer.MIN_VALUE));
        is(IOOBE, () -> x.dateOf(Integer.MAX_VALUE));
        is(20260911, () -> x.dateOf(4));
        is(20260914, () -> x.dateOf(5));
        is(20270611, () -> x.dateOf(199));
        x.holiday(20260907, 20260908);
        is(20260909, () -> x.dateOf(0));
        is(20260914, () -> x.dateOf(3));
        is(20270611, () -> x.dateOf(197));
        is(IOOBE, () -> x.dateOf(198));
        x.holiday(20000101, 20991231);
        is(IOOBE, () -> x.dateOf(0));
    }

    private static void numberOf() {
        Schoolhours x = new Schoolhours();
        for (int date : NO_DATES) {
            is(IAE, () -> x.numberOf(date));
        }
        is(0, () -> x.numberOf(20260907));
        is(NONE, () -> x.numberOf(20260906));
        is(NONE, () -> x.numberOf(20260912));
        is(NONE, () -> x.numberOf(20260913));
        is(5, () -> x.numberOf(20260914));
        is(199, () -> x.numberOf(20270611));
        is(NONE, () -> x.numberOf(20270612));
        is(NONE, () -> x.numberOf(20270614));
        is(NONE, () -> x.numberOf(20000101));
        is(NONE, () -> x.numberOf(20991231));
        x.holiday(20260908, 20260909);
        is(NONE, () -> x.numberOf(20260908));
        is(1, () -> x.numberOf(20260910));
        is(197, () -> x.numberOf(20270611));
    }

    private static void nextDay() {
        Schoolhours x = new Schoolhours();
        for (int date : NO_DATES) {
            is(IAE, () -> x.nextDay(date));
        }
        is(20260908, () -> x.nextDay(20260907));
        is(20260914, () -> x.nextDay(20260911));
        is(20260914, () -> x.nextDay(20260913));
        is(20260907, () -> x.nextDay(20260906));
        is(20260907, () -> x.nextDay(20000101));
        is(20270611, () -> x.nextDay(20270610));
        is(NONE, () -> x.nextDay(20270611));
        is(NONE, () -> x.nextDay(20991231));
        x.holiday(20260907, 20260914);
        is(20260915, () -> x.nextDay(20260101));
        is(20260915, () -> x.nextDay(20260911));
        x.holiday(20270601, 20270630);
        is(NONE, () -> x.nextDay(20270531));
        is(20270531, () -> x.nextDay(20270528));
    }

    private static void weekOf() {
        Schoolhours x = new Schoolhours();
        for (int date : NO_DATES) {
            is(IAE, () -> x.weekOf(date, 0));
        }
        is(IAE, () -> x.weekOf(20260907, -1));
        is(IAE, () -> x.weekOf(20260907, 3));
        is(IAE, () -> x.weekOf(20000101, 3));
        is(0, () -> x.weekOf(20260907, 0));
        is(0, () -> x.weekOf(20260913, 0));
        is(1, () -> x.weekOf(20260914, 0));
        is(39, () -> x.weekOf(20270613, 0));
        for (int what = 0; what < 3; what++) {
            int w = what;
            is(NONE, () -> x.weekOf(20260906, w));
            is(NONE, () -> x.weekOf(20270614, w));
        }
        is(0, () -> x.weekOf(20260913, 1));
        is(1, () -> x.weekOf(20260914, 1));
        is(0, () -> x.weekOf(20260921, 1));
        is(1, () -> x.weekOf(20270613, 1));
        is(5, () -> x.weekOf(20260912, 2));
        // week 1 is no school week: A and B go on over it
        x.holiday(20260914, 20260918);
        is(1, () -> x.weekOf(20260915, 0));
        is(NONE, () -> x.weekOf(20260915, 1));
        is(NONE, () -> x.weekOf(20260919, 1));
        is(0, () -> x.weekOf(20260915, 2));
        is(1, () -> x.weekOf(20260921, 1));
        is(0, () -> x.weekOf(20270613, 1));
        x.holiday(20260921, 20260924);
        is(1, () -> x.weekOf(20260927, 2));
        is(1, () -> x.weekOf(20260921, 1));
        x.holiday(20260907, 20260911);
        is(NONE, () -> x.weekOf(20260907, 1));
        is(0, () -> x.weekOf(20260921, 1));
    }

    private static void dayOfWeek() {
        Schoolhours x = new Schoolhours();
        for (int date : NO_DATES) {
            is(IAE, () -> x.dayOfWeek(date));
        }
        is(0, () -> x.dayOfWeek(20260907));
        is(6, () -> x.dayOfWeek(20260913));
        is(5, () -> x.dayOfWeek(20000101));
        is(3, () -> x.dayOfWeek(20991231));
        is(3, () -> x.dayOfWeek(20240229));
        LocalDate end = LocalDate.of(2100, 1, 1);
        for (LocalDate d = LocalDate.of(2000, 1, 1); d.isBefore(end); d = d.plusDays(1)) {
            int date = number(d);
            DayOfWeek due = d.getDayOfWeek();
            is(due.getValue() - 1, () -> new Schoolhours().dayOfWeek(date));
        }
        int valid = 0;
        Schoolhours asked = x;
        for (int date = 19990000; date < 21010000; date++) {
            // an object is good for 512 calls
            asked = date % 500 == 0 ? new Schoolhours() : asked;
            valid += isDate(asked, date) ? 1 : 0;
        }
        int due = valid;
        is(36525, () -> due);
    }

    private static boolean isDate(Schoolhours x, int date) {
        try {
            x.dayOfWeek(date);
            return true;
        } catch (IllegalArgumentException e) {
            return false;
        }
    }

    private static int number(LocalDate d) {
        return d.getYear() * 10000 + d.getMonthValue() * 100 + d.getDayOfMonth();
    }

    private static void later() {
        Schoolhours x = new Schoolhours();
        for (int date : NO_DATES) {
            is(IAE, () -> x.later(date, 0));
        }
        is(IAE, () -> x.later(20260907, -1001));
        is(IAE, () -> x.later(20260907, 1001));
        is(IAE, () -> x.later(20260907, Integer.MIN_VALUE));
        is(20260907, () -> x.later(20260907, 0));
        is(20260301, () -> x.later(20260228, 1));
        is(20240229, () -> x.later(20240301, -1));
        is(19970406, () -> x.later(20000101, -1000));
        is(21020927, () -> x.later(20991231, 1000));
        for (int days = -1000; days <= 1000; days++) {
            int more = days;
            Schoolhours y = new Schoolhours();
            is(number(LocalDate.of(2000, 1, 1).plusDays(days)), () -> y.later(20000101, more));
            is(number(LocalDate.of(2099, 12, 31).plusDays(days)), () -> y.later(20991231, more));
            is(number(LocalDate.of(2024, 2, 29).plusDays(days)), () -> y.later(20240229, more));
        }
    }

    private static void lostLessons() {
        Schoolhours x = school(row(0, 0, 0, NONE, 1), row(0, 1, 1, NONE, 0), row(1, 2, 2, NONE, 0));
        is(IAE, () -> x.lostLessons(-1));
        is(IAE, () -> x.lostLessons(4));
        is(ISE, () -> x.lostLessons(0));
        is(IAE, () -> x.lostLessons(4));
        type(x, "0m0;1t0;2m1;");
        x.read();
        is(0, () -> x.lostLessons(0));
        x.holiday(20260907, 20260907);
        is(1, () -> x.lostLessons(0));
        is(1, () -> x.lostLessons(1));
        is(0, () -> x.lostLessons(2));
        x.holiday(20260907, 20260908);
        is(2, () -> x.lostLessons(0));
        x.holiday(20260912, 20260914);
        is(3, () -> x.lostLessons(0));
        is(2, () -> x.lostLessons(1));
        x.holiday(20000101, 20260907);
        is(3, () -> x.lostLessons(0));
        x.holiday(20000101, 20991231);
        is(80, () -> x.lostLessons(0));
        is(40, () -> x.lostLessons(1));
    }

    // ---- Texts.

    private static void append() {
        Schoolhours x = school(row(0, 0, 0, NONE, 0));
        is(0, () -> x.append(0, 0, 0, 0, 0));
        is(1, () -> x.append(0, 0, '0', 0, 0));
        is(2, () -> x.append('t' << 24, 0, 0, 0, 0));
        is(4, () -> x.append(0, 0, 0, 0, '2' << 16 | ';'));
        is(0, x::read);
        is(5, () -> x.slotOf(0) - 1);
        // the most significant byte first, and the parameters in their order
        is(6, () -> x.append(0x0030006D, 0x20000000, 0x00000033, 0x00000A00, 0x0000003B));
        is(0, x::read);
        is(3, () -> x.slotOf(0));
        is(4, () -> x.append(-1, 0, 0, 0, 0));
        // the bytes of each parameter count
        for (int place = 0; place < 5; place++) {
            Schoolhours y = new Schoolhours();
            for (int i = 0; i < 24; i++) {
                y.append(-1, 0, 0, 0, 0);
            }
            int[] p = new int[5];
            p[place] = -1;
            y.append(0x010101, 0, 0, 0, 0);
            is(ISE, () -> y.append(p[0], p[1], p[2], p[3], p[4]));
            is(ISE, () -> y.append(0x0100 & p[0] | 1, 0x0100 & p[1], 0x0100 & p[2], 0x0100 & p[3], 0x0100 & p[4] | 1));
            is(99, () -> y.append(0, 0, 0, 0, 0));
        }
        x.clearTape();
        for (int i = 1; i <= 4; i++) {
            int due = 20 * i;
            is(due, () -> x.append(-1, -1, -1, -1, -1));
        }
        is(99, () -> x.append(0x00ffffff, -1, -1, -1, -1));
        is(ISE, () -> x.append(0x0101, 0, 0, 0, 0));
        is(ISE, () -> x.append(-1, -1, -1, -1, -1));
        is(99, () -> x.append(0, 0, 0, 0, 0));
        is(100, () -> x.append(0, 0, 0, 0, 0x80000000));
        is(ISE, () -> x.append(0, 0, 1, 0, 0));
        is(100, () -> x.append(0, 0, 0, 0, 0));
        is(100, x::clearTape);
    }

    private static void clearTape() {
        Schoolhours x = new Schoolhours();
        is(0, x::clearTape);
        type(x, "abc");
        is(3, x::clearTape);
        is(0, x::clearTape);
        is(1, () -> x.append('1', 0, 0, 0, 0));
    }

    private static void read() {
        Schoolhours x = school(row(0, 0, 0, 0, 1), row(1, 1, 1, 0, 0), row(0, 2, 2, NONE, 0));
        x.setRooms(0, 1);
        is(0, () -> readText(x, "0m0;1m2;2m2;"));
        is("0 2 2", () -> table(x));
        is(0, x::clearTape);
        is(NONE, x::errorPosition);
        is(1, () -> readText(x, " \n2f3; 1\nt 3 ;0\nf0;\n "));
        is("16 7 19", () -> table(x));
        is(5, x::undo);
        is("0 2 2", () -> table(x));
        // wrong tables: a class twice, a room too few, a hard wish
        is(ISE, () -> readText(x, "0m0;1m2;2m1;"));
        is("0 2 2", () -> table(x));
        is(0, x::clearTape);
        is(NONE, x::errorPosition);
        is(ISE, () -> readText(x, "0m0;1m1;2m2;"));
        is(IAE, () -> readText(x, "0m0;1m1;2m2"));
        is(0, x::clearTape);
        is("0 2 2", () -> table(x));
        is(4, x::undo);
        is(ISE, x::cost);
        is(0, () -> readText(x, "0m0;1m2;2m2;"));
        x.wish(3, 1, 3, 0);
        is(ISE, () -> readText(x, "0m0;1m2;2m2;"));
        is(ISE, x::cost);
        is(0, () -> readText(x, "0m0;1m3;2m2;"));
        x.setRooms(0, 0);
        is(ISE, () -> readText(x, "0m0;1m3;2m2;"));
        // the empty text tells the empty table
        Schoolhours y = new Schoolhours();
        is(0, y::read);
        is(17, y::checksum);
        is(0, y::undo);
        is(0, y::checksum);
        is(0, () -> readText(y, " \n"));
        is(IAE, () -> readText(y, "0"));
    }

    private static void errorPosition() {
        Schoolhours x = school(row(0, 0, 0, NONE, 1), row(1, 1, 1, NONE, 0));
        is(NONE, x::errorPosition);
        String[] texts = {"", "0", "0m", "0m0", "0m0;", "0m0; ", "2m0;1m0;", "0x0;1m0;", "0m4;1m0;", "0m3;1m0;",
            "0m0,1m0;", "0m0;0m1;", "1m3;1m3;", " \n0 m\n0 ; x", "0m0;1m0;;", "0m0;1m0;0", "m", "00", "0m0;1m0;\t",
            "0M0;", "0m-", ":m0;", "/m0;", "0m0;1m3;2", "0 m 3 ;", "9", "0m0;1m0"};
        int[] due = {0, 1, 2, 3, 4, 5, 0, 1, 2, 2, 3, 4, 4, 10, 8, 8, 0, 1, 8, 1, 2, 0, 0, 8, 4, 0, 7};
        for (int i = 0; i < texts.length; i++) {
            String text = texts[i];
            is(IAE, () -> readText(x, text));
            is(due[i], x::errorPosition);
            is(0, x::clearTape);
            is(0, x::checksum);
        }
        is(0, () -> readText(x, "0m0;1m3;"));
        is(NONE, x::errorPosition);
        is(IAE, () -> readText(x, "0m0;1m\u00e9;"));
        is(6, x::errorPosition);
        x.wish(6, 1, 0, 0);
        is(ISE, () -> readText(x, "0m0;1m3;"));
        is(NONE, x::errorPosition);
        is(IAE, x::read);
        is(0, x::errorPosition);
        x.undo();
        is(0, x::errorPosition);
    }

    private static String written(Schoolhours x, int total) {
        StringBuilder text = new StringBuilder();
        for (int i = 0; i < total; i++) {
            text.append(x.writtenAt(i));
        }
        return text.toString();
    }

    private static void write() {
        Schoolhours x = school(row(0, 0, 0, NONE, 1), row(1, 1, 1, NONE, 0), row(2, 2, 2, NONE, 0),
            row(3, 3, 3, NONE, 0), row(3, 4, 4, NONE, 0));
        is(ISE, x::write);
        is(0, () -> readText(x, "0m2;1t3;2w1;3h0;4f1;"));
        is(20, x::write);
        is("0m2;1t3;2w1;3h0;4f1;", () -> written(x, 20));
        x.move(4, 19);
        is("0m2;1t3;2w1;3h0;4f1;", () -> written(x, 20));
        is(20, x::write);
        is("0m2;1t3;2w1;3h0;4f3;", () -> written(x, 20));
        x.dropLesson(4);
        is(ISE, x::write);
        is("0m2;1t3;2w1;3h0;4f3;", () -> written(x, 20));
        x.find();
        is(16, x::write);
        is("0m0;1m0;2m0;3m0;", () -> written(x, 16));
        is(IOOBE, () -> x.writtenAt(16));
    }

    private static void writtenAt() {
        Schoolhours x = school(row(0, 0, 0, NONE, 0));
        is(IOOBE, () -> x.writtenAt(0));
        x.find();
        is(IOOBE, () -> x.writtenAt(0));
        x.write();
        is('0', () -> x.writtenAt(0));
        is('m', () -> x.writtenAt(1));
        is(';', () -> x.writtenAt(3));
        is(IOOBE, () -> x.writtenAt(4));
        is(IOOBE, () -> x.writtenAt(-1));
        // what was written is not undone
        x.undo();
        x.undo();
        is('0', () -> x.writtenAt(0));
        x.find();
        is(0, x::write);
        is(IOOBE, () -> x.writtenAt(0));
    }

    // ---- Undo, figures, second ways.

    private static void undo() {
        Schoolhours x = new Schoolhours();
        is(NONE, x::undo);
        x.lesson(0, 0, 0, 0, false);
        x.lesson(1, 1, 1, 1, true);
        x.wish(6, 0, 1, 0);
        x.setRooms(0, 1);
        x.setSubjects(5, 7);
        x.setIll(1, 0, true);
        x.setApart(0, 1, true);
        x.find();
        x.move(1, 9);
        type(x, "0f2;1f2;");
        is(ISE, x::read);
        type(x, "0f0;1f2;");
        x.read();
        x.wish(3, 0, 0, 5);
        type(x, "0m1;1m2;");
        x.read();
        is(5, x::improve);
        x.dropWish(0);
        x.dropLesson(0);
        // 15 changes so far; now each is undone, with what it changed
        is(14, x::undo);
        is("2 0", () -> x.lessons() + " " + x.checksum());
        is(13, x::undo);
        is("2 " + (31 * (31 * 17) + 2), () -> x.wishes() + " " + x.checksum());
        is(0, () -> x.slotOf(0));
        is(12, x::undo);
        is("1 2", () -> table(x));
        is(11, x::undo);
        is(ISE, x::cost);
        is(10, x::undo);
        is("1 16 18", () -> x.wishes() + " " + table(x));
        is(9, x::undo);
        is("0 9", () -> table(x));
        is(8, x::undo);
        is("0 1", () -> table(x));
        is(0, () -> x.substitute(1, 1));
        is(2, x::daysNeeded);
        is(7, x::undo);
        is(2, x::daysNeeded);
        is(ISE, x::cost);
        is(6, x::undo);
        is(1, x::daysNeeded);
        is(5, x::undo);
        x.find();
        is(0, () -> x.ill(0, false));
        is(5, x::undo);
        is(4, x::undo);
        is(3, x::undo);
        is(1, x::wishes);
        is(2, x::undo);
        is("2 0", () -> x.lessons() + " " + x.wishes());
        is(1, x::undo);
        is(0, x::undo);
        is(0, x::lessons);
        is(NONE, x::undo);
        is(3, () -> x.setRooms(0, 3));
        is(63, () -> x.setSubjects(5, 63));
        is(false, () -> x.setIll(1, 0, false));
        manyChanges();
    }

    /** The 20 latest changes alone can be undone, also when later ones were undone. */
    private static void manyChanges() {
        Schoolhours x = new Schoolhours();
        for (int i = 0; i < 25; i++) {
            x.setRooms(0, i % 4);
        }
        is(19, x::undo);
        is(18, x::undo);
        x.setRooms(1, 2);
        for (int due = 18; due >= 0; due--) {
            int left = due;
            is(left, x::undo);
        }
        is(NONE, x::undo);
        is(NONE, x::undo);
        // five of the 25 are left: the last of them told 0
        is(0, () -> x.setRooms(0, 3));
        is(3, () -> x.setRooms(1, 3));
        is(1, x::undo);
        // what throws, or is no change, cannot be undone
        Schoolhours y = school(row(0, 0, 0, NONE, 0));
        is(0, y::undo);
        y.find();
        is(0, y::improve);
        y.setBells(0, 420, 30, 0);
        y.setYear(20260914);
        y.holiday(20260914, 20260914);
        is(IOOBE, () -> y.dropLesson(0));
        is(IAE, () -> y.setIll(6, 0, true));
        is(0, y::undo);
        is(NONE, y::undo);
        is(420, () -> y.bell(0, false));
        is(199, y::schoolDays);
    }

    private static void checksum() {
        Schoolhours x = new Schoolhours();
        is(0, x::checksum);
        x.find();
        is(17, x::checksum);
        x.lesson(0, 0, 0, NONE, false);
        is(0, x::checksum);
        for (int i = 1; i < 9; i++) {
            x.lesson(i % 4, i % 6, i % 6, NONE, false);
        }
        x.find();
        int sum = 17;
        for (int lesson = 0; lesson < 9; lesson++) {
            sum = 31 * sum + x.slotOf(lesson);
        }
        int due = sum;
        is(due, x::checksum);
        x.setSubjects(0, 63);
        is(0, x::checksum);
    }

    private static void meanSlot() {
        Schoolhours x = new Schoolhours();
        is(ISE, x::meanSlot);
        x.find();
        is(0.0, x::meanSlot);
        x.lesson(0, 0, 0, NONE, true);
        x.lesson(1, 1, 0, NONE, false);
        x.lesson(2, 2, 0, NONE, false);
        is(ISE, x::meanSlot);
        type(x, "0m0;1m1;2f3;");
        x.read();
        is(20.0 / 3.0, x::meanSlot);
    }

    private static void taken() {
        Schoolhours x = new Schoolhours();
        is(ISE, x::taken);
        x.find();
        is(0.0f, x::taken);
        x.lesson(0, 0, 0, NONE, true);
        x.lesson(1, 1, 0, NONE, false);
        is(ISE, x::taken);
        x.find();
        is(3 / 80.0f, x::taken);
        for (int i = 2; i < 9; i++) {
            x.lesson(i % 4, i % 6, i % 5, NONE, true);
        }
        x.find();
        is(17 / 80.0f, x::taken);
    }

    private static void errors() {
        Schoolhours x = new Schoolhours();
        is(0, x::errors);
        x.find();
        is(0, x::errors);
        for (int i = 0; i < 9; i++) {
            x.lesson(i % 3, i % 4, i % 5, i % 3, i % 2 == 0);
        }
        x.wish(4, 0, 1, 0);
        x.wish(5, 2, 3, 0);
        x.wish(6, 4, 5, 0);
        is(0, x::errors);
        is(true, x::find);
        for (String pair : WHEEL.split(" ")) {
            x.setApart(pair.charAt(0) - '0', pair.charAt(1) - '0', true);
        }
        for (int teacher = 0; teacher < 6; teacher++) {
            x.setIll(teacher, teacher % 5, true);
            x.setIll(teacher, 0, teacher != 3);
            is(0, x::errors);
        }
        int before = x.checksum();
        is(0, x::errors);
        is(before, x::checksum);
        x.improve();
        is(0, x::errors);
        // the proof stays when errors are counted
        x.wish(6, 5, 4, 0);
        is(false, x::find);
        is(2, x::proof);
        is(0, x::errors);
        is(2, () -> x.proofAt(0));
        is(3, () -> x.proofAt(1));
    }
}
