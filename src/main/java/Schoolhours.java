/**
 * The hours of a small school: lessons, rooms and wishes, the table that is found of them, and what
 * hangs on it: gaps, colours, substitutes, exams, bells, the weeks of a year, texts and undo.
 */
public final class Schoolhours {
    public static final int NONE = -1;

    private static final int CLASSES = 4;
    private static final int TEACHERS = 6;
    private static final int SUBJECTS = 6;
    private static final int KINDS = 3;
    private static final int DAYS = 5;
    private static final int HOURS = 4;
    private static final int SLOTS = DAYS * HOURS;
    private static final int LESSONS = 9;
    private static final int WISHES = 12;
    private static final int EXAMS = 8;

    private static final int SHUN_OF_TEACHER = 0;
    private static final int SHUN_OF_CLASS = 1;
    private static final int DAY_SHUNNED = 2;
    private static final int FIXED = 3;
    private static final int ONE_DAY = 4;
    private static final int OTHER_DAY = 5;
    private static final int IN_ORDER = 6;

    private final School school = new School();
    private final History history = new History();
    private final Rules rules = new Rules();
    private final Finder finder = new Finder();
    private final Mover mover = new Mover();
    private final Colours colours = new Colours();
    private final Cover cover = new Cover();
    private final Exams exams = new Exams();
    private final Bells bells = new Bells();
    private final Year year = new Year();
    private final Tape tape = new Tape();

    public Schoolhours() {
    }

    // ---- The school.

    public int lesson(int group, int teacher, int subject, int kind, boolean isDouble)
            throws IllegalArgumentException, IllegalStateException {
        requireRange(group, CLASSES);
        requireRange(teacher, TEACHERS);
        requireRange(subject, SUBJECTS);
        if (kind != NONE) {
            requireRange(kind, KINDS);
        }
        if ((school.subjectsOf(teacher) >> subject & 1) == 0) {
            throw new IllegalArgumentException("the teacher cannot teach the subject");
        }
        if (school.lessonTotal() >= LESSONS) {
            throw new IllegalStateException("there are 9 lessons");
        }
        beginChange();
        school.loseTable();
        return school.addLesson(group, teacher, subject, kind, isDouble ? 1 : 0);
    }

    public int dropLesson(int lesson) throws IndexOutOfBoundsException {
        requireLesson(lesson);
        beginChange();
        school.loseTable();
        return school.removeLesson(lesson);
    }

    public int lessonOf(int lesson, int what) throws IndexOutOfBoundsException, IllegalArgumentException {
        requireLesson(lesson);
        requireRange(what, School.LESSON_WIDTH);
        return school.ofLesson(lesson, what);
    }

    public int lessons() {
        return school.lessonTotal();
    }

    public int setSubjects(int teacher, int subjects) throws IllegalArgumentException, IllegalStateException {
        requireRange(teacher, TEACHERS);
        requireRange(subjects, 1 << SUBJECTS);
        if ((school.subjectsGiven(teacher) & ~subjects) != 0) {
            throw new IllegalStateException("a lesson of the teacher is in another subject");
        }
        beginChange();
        school.loseTable();
        return school.putSubjects(teacher, subjects);
    }

    public int setRooms(int kind, int rooms) throws IllegalArgumentException {
        requireRange(kind, KINDS);
        requireRange(rooms, School.MOST_ROOMS + 1);
        beginChange();
        school.loseTable();
        return school.putRooms(kind, rooms);
    }

    public int wish(int sort, int a, int b, int weight)
            throws IllegalArgumentException, IndexOutOfBoundsException, IllegalStateException {
        requireRange(sort, IN_ORDER + 1);
        requireRange(weight, 10);
        if (sort == SHUN_OF_TEACHER || sort == SHUN_OF_CLASS) {
            requireRange(a, sort == SHUN_OF_TEACHER ? TEACHERS : CLASSES);
            requireRange(b, SLOTS);
        } else if (sort == DAY_SHUNNED || sort == FIXED) {
            requireRange(b, sort == DAY_SHUNNED ? DAYS : SLOTS);
            requireLesson(a);
        } else {
            if (a == b) {
                throw new IllegalArgumentException("a lesson is told twice");
            }
            requireLesson(a);
            requireLesson(b);
        }
        if (school.wishTotal() >= WISHES) {
            throw new IllegalStateException("there are 12 wishes");
        }
        beginChange();
        school.loseTable();
        return school.addWish(sort, a, b, weight);
    }

    public int dropWish(int wish) throws IndexOutOfBoundsException {
        requireWish(wish);
        beginChange();
        school.loseTable();
        return school.removeWish(wish);
    }

    public int wishOf(int wish, int what) throws IndexOutOfBoundsException, IllegalArgumentException {
        requireWish(wish);
        requireRange(what, School.WISH_WIDTH);
        return school.ofWish(wish, what);
    }

    public int wishes() {
        return school.wishTotal();
    }

    // ---- Tables.

    public boolean find() {
        if (!finder.seekFirst(school)) {
            finder.seekProof(school);
            return false;
        }
        beginChange();
        school.putTable(finder.table);
        return true;
    }

    public int proof() {
        return finder.proofTotal;
    }

    public int proofAt(int place) throws IndexOutOfBoundsException {
        if (place < 0 || place >= finder.proofTotal) {
            throw new IndexOutOfBoundsException("there is no such place of a proof");
        }
        return finder.proofRow[place];
    }

    public int slotOf(int lesson) throws IndexOutOfBoundsException, IllegalStateException {
        requireLesson(lesson);
        requireTable();
        return school.table[lesson];
    }

    public int lessonAt(boolean isTeacher, int who, int slot) throws IllegalArgumentException, IllegalStateException {
        requirePerson(isTeacher, who);
        requireRange(slot, SLOTS);
        requireTable();
        for (int lesson = 0; lesson < school.lessonTotal(); lesson++) {
            if (school.isOf(lesson, isTeacher, who) && (school.slotsTaken(lesson, school.table) >> slot & 1) != 0) {
                return lesson;
            }
        }
        return NONE;
    }

    public int roomOf(int lesson) throws IndexOutOfBoundsException, IllegalStateException {
        requireLesson(lesson);
        requireTable();
        rules.take(school, 0);
        return rules.giveRooms(school.table, lesson);
    }

    public int choices(int lesson) throws IndexOutOfBoundsException, IllegalStateException {
        requireLesson(lesson);
        requireTable();
        rules.take(school, school.hardWishes());
        return Integer.bitCount(rules.allowed(lesson, school.table, ~0) & ~(1 << school.table[lesson]));
    }

    public int move(int lesson, int slot)
            throws IndexOutOfBoundsException, IllegalArgumentException, IllegalStateException {
        requireLesson(lesson);
        requireRange(slot, SLOTS);
        requireTable();
        rules.take(school, school.hardWishes());
        if ((rules.allowed(lesson, school.table, ~0) >> slot & 1) == 0) {
            throw new IllegalStateException("the table would not be right");
        }
        beginChange();
        school.table[lesson] = slot;
        return mover.costOf(school, school.table);
    }

    public boolean holds(int wish) throws IndexOutOfBoundsException, IllegalStateException {
        requireWish(wish);
        requireTable();
        return school.fulfils(wish, school.table);
    }

    // ---- Gaps and moves.

    public int cost() throws IllegalStateException {
        requireTable();
        return mover.costOf(school, school.table);
    }

    public int gaps(boolean isTeacher, int who) throws IllegalArgumentException, IllegalStateException {
        requirePerson(isTeacher, who);
        requireTable();
        return mover.gapsIn(school.slotsOfPerson(isTeacher, who, school.table));
    }

    public int improve() throws IllegalStateException {
        requireTable();
        rules.take(school, school.hardWishes());
        int gain = mover.seekBest(school, rules);
        if (gain > 0) {
            beginChange();
            school.putTable(mover.best);
        }
        return gain;
    }

    // ---- Colours.

    public int most() {
        return colours.mostOf(school);
    }

    public int colour(int lesson) throws IndexOutOfBoundsException {
        requireLesson(lesson);
        colours.paint(school);
        return colours.row[lesson];
    }

    // ---- Illness.

    public boolean setIll(int teacher, int day, boolean isIll) throws IllegalArgumentException {
        requireRange(teacher, TEACHERS);
        requireRange(day, DAYS);
        beginChange();
        return school.putIll(teacher, day, isIll);
    }

    public int ill(int day, boolean isLeft) throws IllegalArgumentException, IllegalStateException {
        requireRange(day, DAYS);
        requireTable();
        int total = 0;
        for (int slot = day * HOURS; slot < (day + 1) * HOURS; slot++) {
            cover.plan(school, slot);
            total += Integer.bitCount(isLeft ? cover.left : cover.needy);
        }
        return total;
    }

    public int substitute(int lesson, int slot)
            throws IndexOutOfBoundsException, IllegalArgumentException, IllegalStateException {
        requireLesson(lesson);
        requireRange(slot, SLOTS);
        requireTable();
        cover.plan(school, slot);
        return cover.takers[lesson];
    }

    public int takes(int teacher) throws IllegalArgumentException, IllegalStateException {
        requireRange(teacher, TEACHERS);
        requireTable();
        int total = 0;
        for (int slot = 0; slot < SLOTS; slot++) {
            cover.plan(school, slot);
            total += cover.spare >> teacher & 1 ^ 1;
        }
        return total;
    }

    // ---- Exams.

    public boolean setApart(int one, int other, boolean areApart) throws IllegalArgumentException {
        requireRange(one, EXAMS);
        requireRange(other, EXAMS);
        if (one == other) {
            throw new IllegalArgumentException("both exams are the same");
        }
        beginChange();
        return school.putApart(one, other, areApart);
    }

    public int daysNeeded() {
        return exams.plan(school);
    }

    public int examDay(int exam) throws IllegalArgumentException {
        requireRange(exam, EXAMS);
        exams.plan(school);
        return exams.dayOf[exam];
    }

    public int group() {
        return exams.greatestGroup(school);
    }

    // ---- Bells.

    public int setBells(int day, int begin, int length, int pause) throws IllegalArgumentException {
        requireRange(day, DAYS);
        requireBetween(begin, 420, 600);
        requireBetween(length, 30, 60);
        requireBetween(pause, 0, 30);
        bells.put(day, begin, length, pause);
        return bells.minute((day + 1) * HOURS - 1, true);
    }

    public int bell(int slot, boolean isEnd) throws IllegalArgumentException {
        requireRange(slot, SLOTS);
        return bells.minute(slot, isEnd);
    }

    public int slotAt(int day, int minute) throws IllegalArgumentException {
        requireRange(day, DAYS);
        requireRange(minute, 1440);
        for (int slot = day * HOURS; slot < (day + 1) * HOURS; slot++) {
            if (bells.minute(slot, false) <= minute && minute < bells.minute(slot, true)) {
                return slot;
            }
        }
        return NONE;
    }

    // ---- The year.

    public int setYear(int date) throws IllegalArgumentException {
        int serial = requireDate(date);
        if (year.weekday(serial) != 0) {
            throw new IllegalArgumentException("the date is no Monday");
        }
        return year.beginAt(serial);
    }

    public int holiday(int from, int to) throws IllegalArgumentException, IllegalStateException {
        int first = requireDate(from);
        int last = requireDate(to);
        if (last < first) {
            throw new IllegalArgumentException("the last date is ahead of the first one");
        }
        if (year.holidayTotal >= Year.MOST_HOLIDAYS) {
            throw new IllegalStateException("there are 10 holidays");
        }
        return year.addHoliday(first, last);
    }

    public int schoolDays() {
        return year.daysBetween(0, Year.LENGTH);
    }

    public int dateOf(int number) throws IndexOutOfBoundsException {
        int left = number;
        for (int place = 0; place < Year.LENGTH && left >= 0; place++) {
            if (year.isSchoolDay(place)) {
                if (left == 0) {
                    return year.dateAt(year.begin + place);
                }
                left--;
            }
        }
        throw new IndexOutOfBoundsException("there is no such school day");
    }

    public int numberOf(int date) throws IllegalArgumentException {
        int place = requireDate(date) - year.begin;
        return year.isSchoolDay(place) ? year.daysBetween(0, place) : NONE;
    }

    public int nextDay(int date) throws IllegalArgumentException {
        int behind = requireDate(date) - year.begin + 1;
        for (int place = Math.max(behind, 0); place < Year.LENGTH; place++) {
            if (year.isSchoolDay(place)) {
                return year.dateAt(year.begin + place);
            }
        }
        return NONE;
    }

    public int weekOf(int date, int what) throws IllegalArgumentException {
        int place = requireDate(date) - year.begin;
        requireRange(what, 3);
        if (place < 0 || place >= Year.LENGTH) {
            return NONE;
        }
        int week = place / 7;
        if (what == 0) {
            return week;
        }
        return what == 1 ? year.letterOf(week) : year.daysBetween(week * 7, week * 7 + 7);
    }

    public int dayOfWeek(int date) throws IllegalArgumentException {
        return year.weekday(requireDate(date));
    }

    public int later(int date, int days) throws IllegalArgumentException {
        int serial = requireDate(date);
        requireBetween(days, -1000, 1000);
        return year.dateAt(serial + days);
    }

    public int lostLessons(int group) throws IllegalArgumentException, IllegalStateException {
        requireRange(group, CLASSES);
        requireTable();
        int total = 0;
        for (int lesson = 0; lesson < school.lessonTotal(); lesson++) {
            if (school.isOf(lesson, false, group)) {
                total += year.holidaysOn(school.table[lesson] / HOURS);
            }
        }
        return total;
    }

    // ---- Texts.

    public int append(int a, int b, int c, int d, int e) throws IllegalStateException {
        int more = tape.signsIn(a) + tape.signsIn(b) + tape.signsIn(c) + tape.signsIn(d) + tape.signsIn(e);
        if (tape.length + more > Tape.MOST) {
            throw new IllegalStateException("the tape would have more than 100 bytes");
        }
        tape.add(a);
        tape.add(b);
        tape.add(c);
        tape.add(d);
        tape.add(e);
        return tape.length;
    }

    public int clearTape() {
        return tape.empty();
    }

    public int read() throws IllegalArgumentException, IllegalStateException {
        boolean isText = tape.parse(school);
        tape.empty();
        if (!isText) {
            throw new IllegalArgumentException("the text has an error");
        }
        rules.take(school, school.hardWishes());
        if (!rules.isRight(tape.slots)) {
            throw new IllegalStateException("the table is not right");
        }
        beginChange();
        school.putTable(tape.slots);
        return mover.costOf(school, school.table);
    }

    public int errorPosition() {
        return tape.errorAt;
    }

    public int write() throws IllegalStateException {
        requireTable();
        return tape.print(school);
    }

    public char writtenAt(int index) throws IndexOutOfBoundsException {
        if (index < 0 || index >= tape.writtenTotal) {
            throw new IndexOutOfBoundsException("there is no such sign");
        }
        return tape.written[index];
    }

    // ---- Undo, figures, second ways.

    public int undo() {
        if (history.total == 0) {
            return NONE;
        }
        finder.forget();
        return history.back(school);
    }

    public int checksum() {
        if (!school.hasTable()) {
            return 0;
        }
        int sum = 17;
        for (int lesson = 0; lesson < school.lessonTotal(); lesson++) {
            sum = 31 * sum + school.table[lesson];
        }
        return sum;
    }

    public double meanSlot() throws IllegalStateException {
        requireTable();
        int sum = 0;
        for (int lesson = 0; lesson < school.lessonTotal(); lesson++) {
            sum += school.table[lesson];
        }
        return school.lessonTotal() == 0 ? 0.0 : (double) sum / (double) school.lessonTotal();
    }

    public float taken() throws IllegalStateException {
        requireTable();
        int sum = 0;
        for (int lesson = 0; lesson < school.lessonTotal(); lesson++) {
            sum += 1 + school.ofLesson(lesson, School.DOUBLE);
        }
        return (float) sum / 80.0f;
    }

    public int errors() {
        int sum = colours.sharedPairs(school) + exams.faults(school);
        if (school.hasTable()) {
            rules.take(school, school.hardWishes());
            boolean isFirst = finder.seekFirst(school) && !school.tableIsAheadOf(finder.table);
            sum += rules.isRight(school.table) && isFirst ? 0 : 1;
            sum += cover.faults(school);
        }
        return sum;
    }

    private void beginChange() {
        history.keep(school);
        finder.forget();
    }

    private void requireRange(int number, int bound) {
        requireBetween(number, 0, bound - 1);
    }

    private void requireBetween(int number, int least, int greatest) {
        if (number < least || number > greatest) {
            throw new IllegalArgumentException("a number is out of range");
        }
    }

    private void requirePerson(boolean isTeacher, int who) {
        requireRange(who, isTeacher ? TEACHERS : CLASSES);
    }

    private void requireLesson(int lesson) {
        if (lesson < 0 || lesson >= school.lessonTotal()) {
            throw new IndexOutOfBoundsException("there is no such lesson");
        }
    }

    private void requireWish(int wish) {
        if (wish < 0 || wish >= school.wishTotal()) {
            throw new IndexOutOfBoundsException("there is no such wish");
        }
    }

    private void requireTable() {
        if (!school.hasTable()) {
            throw new IllegalStateException("there is no present table");
        }
    }

    private int requireDate(int date) {
        if (!year.isDate(date)) {
            throw new IllegalArgumentException("the number is no date of these years");
        }
        return year.serialOf(date);
    }

    /** What undo brings back: all that the school was told, in one row, and its present table. */
    private static final class School {
        static final int GROUP = 0;
        static final int TEACHER = 1;
        static final int SUBJECT = 2;
        static final int KIND = 3;
        static final int DOUBLE = 4;
        static final int LESSON_WIDTH = 5;
        static final int SORT = 0;
        static final int A = 1;
        static final int B = 2;
        static final int WEIGHT = 3;
        static final int WISH_WIDTH = 4;
        static final int MOST_ROOMS = 3;

        static final int LESSON_TOTAL = 0;
        static final int WISH_TOTAL = 1;
        static final int HAS_TABLE = 2;
        static final int LESSON_ROWS = 3;
        static final int WISH_ROWS = LESSON_ROWS + LESSONS * LESSON_WIDTH;
        static final int SUBJECT_SETS = WISH_ROWS + WISHES * WISH_WIDTH;
        static final int ROOM_TOTALS = SUBJECT_SETS + TEACHERS;
        static final int ILL_DAYS = ROOM_TOTALS + KINDS;
        static final int APART_SETS = ILL_DAYS + TEACHERS;
        static final int SIZE = APART_SETS + EXAMS;

        final int[] cells = new int[SIZE];
        final int[] table = new int[LESSONS];

        School() {
            for (int teacher = 0; teacher < TEACHERS; teacher++) {
                cells[SUBJECT_SETS + teacher] = (1 << SUBJECTS) - 1;
            }
            for (int kind = 0; kind < KINDS; kind++) {
                cells[ROOM_TOTALS + kind] = MOST_ROOMS;
            }
        }

        int lessonTotal() {
            return cells[LESSON_TOTAL];
        }

        int wishTotal() {
            return cells[WISH_TOTAL];
        }

        boolean hasTable() {
            return cells[HAS_TABLE] != 0;
        }

        void loseTable() {
            cells[HAS_TABLE] = 0;
        }

        void putTable(int[] slots) {
            cells[HAS_TABLE] = 1;
            System.arraycopy(slots, 0, table, 0, LESSONS);
        }

        int ofLesson(int lesson, int what) {
            return cells[LESSON_ROWS + lesson * LESSON_WIDTH + what];
        }

        int ofWish(int wish, int what) {
            return cells[WISH_ROWS + wish * WISH_WIDTH + what];
        }

        int subjectsOf(int teacher) {
            return cells[SUBJECT_SETS + teacher];
        }

        int roomsOf(int kind) {
            return cells[ROOM_TOTALS + kind];
        }

        boolean isIll(int teacher, int day) {
            return (cells[ILL_DAYS + teacher] >> day & 1) != 0;
        }

        int apartFrom(int exam) {
            return cells[APART_SETS + exam];
        }

        int addLesson(int group, int teacher, int subject, int kind, int isDouble) {
            int number = cells[LESSON_TOTAL];
            int row = LESSON_ROWS + number * LESSON_WIDTH;
            cells[row + GROUP] = group;
            cells[row + TEACHER] = teacher;
            cells[row + SUBJECT] = subject;
            cells[row + KIND] = kind;
            cells[row + DOUBLE] = isDouble;
            cells[LESSON_TOTAL] = number + 1;
            return number;
        }

        int removeLesson(int lesson) {
            for (int wish = wishTotal() - 1; wish >= 0; wish--) {
                if (names(wish, lesson)) {
                    removeWish(wish);
                }
            }
            for (int wish = 0; wish < wishTotal(); wish++) {
                renumber(wish, lesson);
            }
            int row = LESSON_ROWS + lesson * LESSON_WIDTH;
            int end = LESSON_ROWS + lessonTotal() * LESSON_WIDTH;
            System.arraycopy(cells, row + LESSON_WIDTH, cells, row, end - row - LESSON_WIDTH);
            cells[LESSON_TOTAL]--;
            return lessonTotal();
        }

        boolean names(int wish, int lesson) {
            int sort = ofWish(wish, SORT);
            return sort >= DAY_SHUNNED && ofWish(wish, A) == lesson || sort >= ONE_DAY && ofWish(wish, B) == lesson;
        }

        void renumber(int wish, int lesson) {
            int sort = ofWish(wish, SORT);
            int row = WISH_ROWS + wish * WISH_WIDTH;
            if (sort >= DAY_SHUNNED && cells[row + A] > lesson) {
                cells[row + A]--;
            }
            if (sort >= ONE_DAY && cells[row + B] > lesson) {
                cells[row + B]--;
            }
        }

        int addWish(int sort, int a, int b, int weight) {
            int number = cells[WISH_TOTAL];
            int row = WISH_ROWS + number * WISH_WIDTH;
            cells[row + SORT] = sort;
            cells[row + A] = a;
            cells[row + B] = b;
            cells[row + WEIGHT] = weight;
            cells[WISH_TOTAL] = number + 1;
            return number;
        }

        int removeWish(int wish) {
            int row = WISH_ROWS + wish * WISH_WIDTH;
            int end = WISH_ROWS + wishTotal() * WISH_WIDTH;
            System.arraycopy(cells, row + WISH_WIDTH, cells, row, end - row - WISH_WIDTH);
            cells[WISH_TOTAL]--;
            return wishTotal();
        }

        int putSubjects(int teacher, int subjects) {
            int before = cells[SUBJECT_SETS + teacher];
            cells[SUBJECT_SETS + teacher] = subjects;
            return before;
        }

        int putRooms(int kind, int rooms) {
            int before = cells[ROOM_TOTALS + kind];
            cells[ROOM_TOTALS + kind] = rooms;
            return before;
        }

        boolean putIll(int teacher, int day, boolean isSo) {
            return putBit(ILL_DAYS + teacher, day, isSo);
        }

        boolean putApart(int one, int other, boolean isSo) {
            putBit(APART_SETS + other, one, isSo);
            return putBit(APART_SETS + one, other, isSo);
        }

        boolean putBit(int cell, int bit, boolean isSo) {
            boolean before = (cells[cell] >> bit & 1) != 0;
            cells[cell] = isSo ? cells[cell] | 1 << bit : cells[cell] & ~(1 << bit);
            return before;
        }

        int subjectsGiven(int teacher) {
            int subjects = 0;
            for (int lesson = 0; lesson < lessonTotal(); lesson++) {
                if (isOf(lesson, true, teacher)) {
                    subjects |= 1 << ofLesson(lesson, SUBJECT);
                }
            }
            return subjects;
        }

        /** The set of the wishes with the weight 0. */
        int hardWishes() {
            int hard = 0;
            for (int wish = 0; wish < wishTotal(); wish++) {
                if (ofWish(wish, WEIGHT) == 0) {
                    hard |= 1 << wish;
                }
            }
            return hard;
        }

        boolean isOf(int lesson, boolean isTeacher, int who) {
            return cells[LESSON_ROWS + lesson * LESSON_WIDTH + (isTeacher ? TEACHER : GROUP)] == who;
        }

        /** The set of the slots that a lesson takes, one or two of them. */
        int slotsTaken(int lesson, int[] slots) {
            return (cells[LESSON_ROWS + lesson * LESSON_WIDTH + DOUBLE] == 1 ? 3 : 1) << slots[lesson];
        }

        int slotsOfPerson(boolean isTeacher, int who, int[] slots) {
            int set = 0;
            for (int lesson = 0; lesson < lessonTotal(); lesson++) {
                if (isOf(lesson, isTeacher, who)) {
                    set |= slotsTaken(lesson, slots);
                }
            }
            return set;
        }

        boolean fulfils(int wish, int[] slots) {
            int a = ofWish(wish, A);
            int b = ofWish(wish, B);
            switch (ofWish(wish, SORT)) {
                case SHUN_OF_TEACHER:
                    return (slotsOfPerson(true, a, slots) >> b & 1) == 0;
                case SHUN_OF_CLASS:
                    return (slotsOfPerson(false, a, slots) >> b & 1) == 0;
                case DAY_SHUNNED:
                    return slots[a] / HOURS != b;
                case FIXED:
                    return slots[a] == b;
                case ONE_DAY:
                    return slots[a] / HOURS == slots[b] / HOURS;
                case OTHER_DAY:
                    return slots[a] / HOURS != slots[b] / HOURS;
                default:
                    return slots[a] < slots[b];
            }
        }

        boolean tableIsAheadOf(int[] slots) {
            for (int lesson = 0; lesson < lessonTotal(); lesson++) {
                if (table[lesson] != slots[lesson]) {
                    return table[lesson] < slots[lesson];
                }
            }
            return false;
        }
    }

    /** The school ahead of each of the latest changes, in a ring that is made once. */
    private static final class History {
        static final int DEPTH = 20;
        static final int WIDTH = School.SIZE + LESSONS;

        final int[] ring = new int[DEPTH * WIDTH];
        int next;
        int total;

        void keep(School school) {
            System.arraycopy(school.cells, 0, ring, next * WIDTH, School.SIZE);
            System.arraycopy(school.table, 0, ring, next * WIDTH + School.SIZE, LESSONS);
            next = (next + 1) % DEPTH;
            total = Math.min(total + 1, DEPTH);
        }

        int back(School school) {
            next = (next + DEPTH - 1) % DEPTH;
            total--;
            System.arraycopy(ring, next * WIDTH, school.cells, 0, School.SIZE);
            System.arraycopy(ring, next * WIDTH + School.SIZE, school.table, 0, LESSONS);
            return total;
        }
    }

    /**
     * What a right table keeps, told for each lesson by the slots at which it may begin at all (open),
     * by what it takes (shape, and reach, by which a double lesson meets slots behind its begin), by
     * the lessons with which it shares a class or a teacher (clash) or a kind of room (rivals), and by
     * those that must be on its day, not on it, ahead of it or behind it.
     */
    private static final class Rules {
        static final int ALL_SLOTS = (1 << SLOTS) - 1;
        static final int DOUBLE_SLOTS = 0x77777;
        static final int WHOLE_DAY = (1 << HOURS) - 1;

        int total;
        final int[] open = new int[LESSONS];
        final int[] shape = new int[LESSONS];
        final int[] reach = new int[LESSONS];
        final int[] clash = new int[LESSONS];
        final int[] oneDay = new int[LESSONS];
        final int[] otherDay = new int[LESSONS];
        final int[] ahead = new int[LESSONS];
        final int[] behind = new int[LESSONS];
        final int[] rivals = new int[LESSONS];
        final int[] rooms = new int[LESSONS];
        final int[] given = new int[LESSONS];

        /** Takes over the lessons, and of the wishes those of a set alone, as if they were hard. */
        void take(School school, int wishes) {
            total = school.lessonTotal();
            for (int lesson = 0; lesson < total; lesson++) {
                takeLesson(school, lesson);
            }
            for (int wish = 0; wish < school.wishTotal(); wish++) {
                if ((wishes >> wish & 1) != 0) {
                    takeWish(school, school.ofWish(wish, School.SORT), school.ofWish(wish, School.A),
                            school.ofWish(wish, School.B));
                }
            }
        }

        void takeLesson(School school, int lesson) {
            int kind = school.ofLesson(lesson, School.KIND);
            boolean isDouble = school.ofLesson(lesson, School.DOUBLE) == 1;
            rooms[lesson] = kind == NONE ? LESSONS : school.roomsOf(kind);
            shape[lesson] = isDouble ? 3 : 1;
            reach[lesson] = isDouble ? 1 : 0;
            open[lesson] = rooms[lesson] == 0 ? 0 : isDouble ? DOUBLE_SLOTS : ALL_SLOTS;
            clash[lesson] = 0;
            oneDay[lesson] = 0;
            otherDay[lesson] = 0;
            ahead[lesson] = 0;
            behind[lesson] = 0;
            rivals[lesson] = 0;
            for (int other = 0; other < total; other++) {
                if (other != lesson) {
                    compare(school, lesson, other);
                }
            }
        }

        void compare(School school, int lesson, int other) {
            boolean sameGroup = school.ofLesson(other, School.GROUP) == school.ofLesson(lesson, School.GROUP);
            if (sameGroup || school.ofLesson(other, School.TEACHER) == school.ofLesson(lesson, School.TEACHER)) {
                clash[lesson] |= 1 << other;
            }
            if (sameGroup && school.ofLesson(other, School.SUBJECT) == school.ofLesson(lesson, School.SUBJECT)) {
                otherDay[lesson] |= 1 << other;
            }
            int kind = school.ofLesson(lesson, School.KIND);
            if (kind != NONE && school.ofLesson(other, School.KIND) == kind) {
                rivals[lesson] |= 1 << other;
            }
        }

        void takeWish(School school, int sort, int a, int b) {
            if (sort == SHUN_OF_TEACHER || sort == SHUN_OF_CLASS) {
                for (int lesson = 0; lesson < total; lesson++) {
                    if (school.isOf(lesson, sort == SHUN_OF_TEACHER, a)) {
                        open[lesson] &= ~(1 << b | 1 << b >> reach[lesson]);
                    }
                }
            } else if (sort == DAY_SHUNNED) {
                open[a] &= ~(WHOLE_DAY << b * HOURS);
            } else if (sort == FIXED) {
                open[a] &= 1 << b;
            } else if (sort == IN_ORDER) {
                ahead[b] |= 1 << a;
                behind[a] |= 1 << b;
            } else {
                int[] row = sort == ONE_DAY ? oneDay : otherDay;
                row[a] |= 1 << b;
                row[b] |= 1 << a;
            }
        }

        /** The slots at which a lesson may begin, if of the other lessons those of a set stand in a table. */
        int allowed(int lesson, int[] slots, int others) {
            int free = open[lesson];
            int once = 0;
            int twice = 0;
            int thrice = 0;
            for (int other = 0; other < total; other++) {
                int bit = 1 << other;
                if (other != lesson && (others & bit) != 0) {
                    int begin = slots[other];
                    int taken = shape[other] << begin;
                    int day = WHOLE_DAY << begin / HOURS * HOURS;
                    free &= (clash[lesson] & bit) != 0 ? ~(taken | taken >> reach[lesson]) : ~0;
                    free &= (oneDay[lesson] & bit) != 0 ? day : ~0;
                    free &= (otherDay[lesson] & bit) != 0 ? ~day : ~0;
                    free &= (ahead[lesson] & bit) != 0 ? ~((2 << begin) - 1) : ~0;
                    free &= (behind[lesson] & bit) != 0 ? (1 << begin) - 1 : ~0;
                    if ((rivals[lesson] & bit) != 0) {
                        thrice |= twice & taken;
                        twice |= once & taken;
                        once |= taken;
                    }
                }
            }
            int limit = rooms[lesson];
            int full = limit == 1 ? once : limit == 2 ? twice : limit == 3 ? thrice : 0;
            return free & ~(full | full >> reach[lesson]);
        }

        boolean isRight(int[] slots) {
            for (int lesson = 0; lesson < total; lesson++) {
                if ((allowed(lesson, slots, ~0) >> slots[lesson] & 1) == 0) {
                    return false;
                }
            }
            return true;
        }

        /** Gives the rooms of a right table, by slots and then numbers; answers that of a lesson. */
        int giveRooms(int[] slots, int asked) {
            for (int slot = 0; slot < SLOTS; slot++) {
                for (int lesson = 0; lesson < total; lesson++) {
                    if (slots[lesson] == slot) {
                        given[lesson] = rooms[lesson] == LESSONS ? NONE : leastRoom(slots, lesson);
                    }
                }
            }
            return given[asked];
        }

        int leastRoom(int[] slots, int lesson) {
            int used = 0;
            for (int other = 0; other < total; other++) {
                boolean isAhead = slots[other] < slots[lesson] || slots[other] == slots[lesson] && other < lesson;
                boolean meets = (shape[other] << slots[other] & shape[lesson] << slots[lesson]) != 0;
                if (isAhead && meets && (rivals[lesson] >> other & 1) != 0) {
                    used |= 1 << given[other];
                }
            }
            int room = 0;
            while (room < School.MOST_ROOMS && (used >> room & 1) != 0) {
                room++;
            }
            return room;
        }
    }

    /**
     * Seeks the first table, and the proof if there is none. A table is sought day by day: which
     * lessons stand on a day is chosen from those still left, so that a set of lessons once seen as a
     * dead end ahead of a day is never tried again, and no school makes the search long.
     */
    private static final class Finder {
        static final int SETS = 1 << LESSONS;
        static final int KNOWN = 1;
        static final int FITS = 2;
        static final int DEAD = 4;

        final Rules rules = new Rules();
        final int[] table = new int[LESSONS];
        final int[] proofRow = new int[WISHES];
        int proofTotal = NONE;

        private final int[] marks = new int[DAYS * SETS];
        private final int[] chosen = new int[DAYS];
        private final int[] trial = new int[LESSONS];
        private int round;

        void forget() {
            proofTotal = NONE;
        }

        /** Puts the first table into the row for it; answers whether there is a right one. */
        boolean seekFirst(School school) {
            rules.take(school, school.hardWishes());
            if (!isSolvable()) {
                return false;
            }
            for (int lesson = 0; lesson < rules.total; lesson++) {
                int wider = rules.open[lesson];
                boolean isLess = true;
                for (int tries = 0; tries < SLOTS && isLess; tries++) {
                    rules.open[lesson] = wider & (1 << table[lesson]) - 1;
                    isLess = isSolvable();
                }
                rules.open[lesson] = 1 << table[lesson];
            }
            return true;
        }

        void seekProof(School school) {
            int kept = school.hardWishes();
            for (int wish = 0; wish < school.wishTotal(); wish++) {
                if ((kept >> wish & 1) != 0) {
                    rules.take(school, kept & ~(1 << wish));
                    kept = isSolvable() ? kept : kept & ~(1 << wish);
                }
            }
            proofTotal = 0;
            for (int wish = 0; wish < school.wishTotal(); wish++) {
                if ((kept >> wish & 1) != 0) {
                    proofRow[proofTotal] = wish;
                    proofTotal++;
                }
            }
        }

        /** Answers whether there is a right table, and puts one into the row if so. */
        private boolean isSolvable() {
            for (int lesson = 0; lesson < rules.total; lesson++) {
                if (rules.open[lesson] == 0) {
                    return false;
                }
            }
            // marks of earlier rounds bear other numbers, so they need not be wiped out
            round++;
            if (!canChoose(0, 0, 0, 0)) {
                return false;
            }
            for (int day = 0; day < DAYS; day++) {
                canStand(rules, trial, day, chosen[day], 0);
            }
            System.arraycopy(trial, 0, table, 0, LESSONS);
            return true;
        }

        /** Goes on with the lessons from one number on, those of a set being chosen for the day. */
        private boolean canChoose(int day, int from, int set, int placed) {
            for (int lesson = from; lesson < rules.total; lesson++) {
                if ((placed >> lesson & 1) == 0) {
                    if (canTakeIn(day, lesson, set, placed)) {
                        return true;
                    }
                    if (mustJoin(day, lesson, set)) {
                        return false;
                    }
                }
            }
            chosen[day] = set;
            return !canTakeMore(day, set, placed) && canGoOn(day + 1, placed | set);
        }

        private boolean canTakeIn(int day, int lesson, int set, int placed) {
            return mayJoin(day, lesson, set, placed, (1 << lesson) - 1) && fits(day, lesson, set)
                    && canChoose(day, lesson + 1, set | 1 << lesson, placed);
        }

        /** Whether another lesson can join a set: then this set is not tried, as a greater one leaves no more behind. */
        private boolean canTakeMore(int day, int set, int placed) {
            for (int lesson = 0; lesson < rules.total; lesson++) {
                boolean isOut = ((placed | set) >> lesson & 1) == 0;
                if (isOut && mayJoin(day, lesson, set, placed, ~0) && fits(day, lesson, set)) {
                    return true;
                }
            }
            return false;
        }

        /** Whether the lessons that are not placed can stand on this day and those behind it. */
        private boolean canGoOn(int day, int placed) {
            if (day >= DAYS) {
                return placed == (1 << rules.total) - 1;
            }
            if ((marksOf(day, placed) & DEAD) != 0) {
                return false;
            }
            if (canChoose(day, 0, 0, placed)) {
                return true;
            }
            mark(day, placed, DEAD);
            return false;
        }

        /** Of the lessons that are decided, those that must be ahead or beside must be there, and none be too late. */
        private boolean mayJoin(int day, int lesson, int set, int placed, int decided) {
            int needed = rules.ahead[lesson] | rules.oneDay[lesson];
            return (rules.open[lesson] >> day * HOURS & Rules.WHOLE_DAY) != 0
                    && (rules.oneDay[lesson] & placed) == 0
                    && (needed & decided & ~(placed | set)) == 0;
        }

        private boolean mustJoin(int day, int lesson, int set) {
            boolean isLast = rules.open[lesson] >> (day + 1) * HOURS == 0;
            return isLast || ((rules.behind[lesson] | rules.oneDay[lesson]) & set) != 0;
        }

        /** Whether a lesson can stand on a day beside each one of a set, and then beside all of them. */
        private boolean fits(int day, int lesson, int set) {
            int whole = set | 1 << lesson;
            for (int other = 0; other <= rules.total; other++) {
                // two that cannot stand together are seen at once, a greater set with them only after many tries
                int tried = other < rules.total ? whole & (1 << other | 1 << lesson) : whole;
                int known = marksOf(day, tried);
                if ((known & KNOWN) == 0) {
                    known = KNOWN | (canStand(rules, trial, day, tried, 0) ? FITS : 0);
                    mark(day, tried, known);
                }
                if ((known & FITS) == 0) {
                    return false;
                }
            }
            return true;
        }

        /** Whether the lessons of a set that have no hour yet find hours of a day beside those that have one. */
        private static boolean canStand(Rules rules, int[] slots, int day, int set, int placed) {
            int next = NONE;
            int free = 0;
            int fewest = HOURS + 1;
            // the lesson with the fewest hours left is the next one, as a dead end shows soonest by it
            for (int lesson = 0; lesson < rules.total && fewest > 0; lesson++) {
                if (((set & ~placed) >> lesson & 1) != 0) {
                    int hours = rules.allowed(lesson, slots, placed) >> day * HOURS & Rules.WHOLE_DAY;
                    if (Integer.bitCount(hours) < fewest) {
                        next = lesson;
                        free = hours;
                        fewest = Integer.bitCount(hours);
                    }
                }
            }
            for (int hour = 0; hour < HOURS && next != NONE; hour++) {
                if ((free >> hour & 1) != 0) {
                    slots[next] = day * HOURS + hour;
                    if (canStand(rules, slots, day, set, placed | 1 << next)) {
                        return true;
                    }
                }
            }
            return next == NONE;
        }

        private int marksOf(int day, int set) {
            int marked = marks[day * SETS + set];
            return marked >> 3 == round ? marked & 7 : 0;
        }

        private void mark(int day, int set, int more) {
            marks[day * SETS + set] = round << 3 | marksOf(day, set) | more;
        }
    }

    /** Gaps, costs and the best move. */
    private static final class Mover {
        final int[] best = new int[LESSONS];

        private final int[] trial = new int[LESSONS];
        private int least;

        int costOf(School school, int[] slots) {
            int sum = 0;
            for (int group = 0; group < CLASSES; group++) {
                sum += gapsIn(school.slotsOfPerson(false, group, slots));
            }
            for (int teacher = 0; teacher < TEACHERS; teacher++) {
                sum += gapsIn(school.slotsOfPerson(true, teacher, slots));
            }
            for (int wish = 0; wish < school.wishTotal(); wish++) {
                int weight = school.ofWish(wish, School.WEIGHT);
                if (weight != 0 && !school.fulfils(wish, slots)) {
                    sum += weight;
                }
            }
            return sum;
        }

        /** Counts the slots outside a set that have one of the set ahead and one behind on their day. */
        int gapsIn(int set) {
            int ahead = set << 1 & 0xEEEEE | set << 2 & 0xCCCCC | set << 3 & 0x88888;
            int behind = set >> 1 & 0x77777 | set >> 2 & 0x33333 | set >> 3 & 0x11111;
            return Integer.bitCount(ahead & behind & ~set);
        }

        /** Puts the table behind the best move into the row for it; answers by how much its cost is less. */
        int seekBest(School school, Rules rules) {
            int before = costOf(school, school.table);
            least = before;
            System.arraycopy(school.table, 0, trial, 0, LESSONS);
            for (int lesson = 0; lesson < rules.total && least > 0; lesson++) {
                trySlots(school, rules, lesson);
            }
            for (int one = 0; one < rules.total && least > 0; one++) {
                for (int other = one + 1; other < rules.total; other++) {
                    trySwap(school, rules, one, other);
                }
            }
            return before - least;
        }

        private void trySlots(School school, Rules rules, int lesson) {
            int free = rules.allowed(lesson, school.table, ~0);
            for (int slot = 0; slot < SLOTS; slot++) {
                if ((free >> slot & 1) != 0) {
                    trial[lesson] = slot;
                    weigh(school);
                }
            }
            trial[lesson] = school.table[lesson];
        }

        private void trySwap(School school, Rules rules, int one, int other) {
            trial[one] = school.table[other];
            trial[other] = school.table[one];
            if (rules.isRight(trial)) {
                weigh(school);
            }
            trial[one] = school.table[one];
            trial[other] = school.table[other];
        }

        private void weigh(School school) {
            int reached = costOf(school, trial);
            // only a lesser cost counts, so of equal moves the one that is tried first stays
            if (reached < least) {
                least = reached;
                System.arraycopy(trial, 0, best, 0, LESSONS);
            }
        }
    }

    /** Colours lessons so that no class and no teacher has one colour twice. */
    private static final class Colours {
        final int[] row = new int[LESSONS];

        int mostOf(School school) {
            int greatest = 0;
            for (int group = 0; group < CLASSES; group++) {
                greatest = Math.max(greatest, totalOf(school, false, group));
            }
            for (int teacher = 0; teacher < TEACHERS; teacher++) {
                greatest = Math.max(greatest, totalOf(school, true, teacher));
            }
            return greatest;
        }

        private int totalOf(School school, boolean isTeacher, int who) {
            int total = 0;
            for (int lesson = 0; lesson < school.lessonTotal(); lesson++) {
                total += school.isOf(lesson, isTeacher, who) ? 1 : 0;
            }
            return total;
        }

        void paint(School school) {
            int bound = mostOf(school);
            for (int lesson = 0; lesson < school.lessonTotal(); lesson++) {
                int ofClass = used(school, false, lesson);
                int ofTeacher = used(school, true, lesson);
                int both = leastBeside(ofClass | ofTeacher);
                if (both < bound) {
                    row[lesson] = both;
                } else {
                    int p = leastBeside(ofClass);
                    turn(school, lesson, p, leastBeside(ofTeacher));
                    row[lesson] = p;
                }
            }
        }

        /** The colours that the class or the teacher of a lesson has by the lessons ahead of it. */
        private int used(School school, boolean isTeacher, int lesson) {
            int who = school.ofLesson(lesson, isTeacher ? School.TEACHER : School.GROUP);
            int set = 0;
            for (int other = 0; other < lesson; other++) {
                if (school.isOf(other, isTeacher, who)) {
                    set |= 1 << row[other];
                }
            }
            return set;
        }

        private int leastBeside(int set) {
            int least = 0;
            while (least < LESSONS && (set >> least & 1) != 0) {
                least++;
            }
            return least;
        }

        /** Turns the way of two colours that begins at the teacher of a lesson with the first one. */
        private void turn(School school, int lesson, int p, int q) {
            int way = 0;
            int next = withColour(school, true, school.ofLesson(lesson, School.TEACHER), p, lesson);
            for (int steps = 1; steps <= LESSONS && next != NONE; steps++) {
                boolean isTeacher = steps % 2 == 0;
                int who = school.ofLesson(next, isTeacher ? School.TEACHER : School.GROUP);
                way |= 1 << next;
                next = withColour(school, isTeacher, who, isTeacher ? p : q, lesson);
            }
            for (int other = 0; other < lesson; other++) {
                if ((way >> other & 1) != 0) {
                    row[other] = p + q - row[other];
                }
            }
        }

        private int withColour(School school, boolean isTeacher, int who, int wanted, int bound) {
            for (int other = 0; other < bound; other++) {
                if (row[other] == wanted && school.isOf(other, isTeacher, who)) {
                    return other;
                }
            }
            return NONE;
        }

        int sharedPairs(School school) {
            paint(school);
            int pairs = 0;
            for (int lesson = 0; lesson < school.lessonTotal(); lesson++) {
                for (int other = 0; other < lesson; other++) {
                    boolean meet = school.isOf(other, false, school.ofLesson(lesson, School.GROUP))
                            || school.isOf(other, true, school.ofLesson(lesson, School.TEACHER));
                    pairs += meet && row[other] == row[lesson] ? 1 : 0;
                }
            }
            return pairs;
        }
    }

    /** The substitutes of one slot. */
    private static final class Cover {
        final int[] takers = new int[LESSONS];
        int needy;
        int left;
        int spare;

        private final int[] able = new int[LESSONS];

        /** Finds the plan of a slot: who takes each lesson, which are left, and who takes none. */
        void plan(School school, int slot) {
            collect(school, slot);
            left = 0;
            spare = (1 << TEACHERS) - 1;
            int due = mostTaken(able, needy, spare, 0);
            for (int lesson = 0; lesson < LESSONS; lesson++) {
                takers[lesson] = NONE;
                if ((needy >> lesson & 1) != 0) {
                    takers[lesson] = leastTaker(lesson, due);
                    if (takers[lesson] == NONE) {
                        left |= 1 << lesson;
                    } else {
                        spare &= ~(1 << takers[lesson]);
                        due--;
                    }
                }
            }
        }

        private void collect(School school, int slot) {
            needy = 0;
            int fit = 0;
            for (int teacher = 0; teacher < TEACHERS; teacher++) {
                boolean isBusy = (school.slotsOfPerson(true, teacher, school.table) >> slot & 1) != 0;
                if (!isBusy && !school.isIll(teacher, slot / HOURS)) {
                    fit |= 1 << teacher;
                }
            }
            for (int lesson = 0; lesson < school.lessonTotal(); lesson++) {
                boolean isHere = (school.slotsTaken(lesson, school.table) >> slot & 1) != 0;
                if (isHere && school.isIll(school.ofLesson(lesson, School.TEACHER), slot / HOURS)) {
                    needy |= 1 << lesson;
                    able[lesson] = fit & teachersOf(school, school.ofLesson(lesson, School.SUBJECT));
                }
            }
        }

        private int teachersOf(School school, int subject) {
            int set = 0;
            for (int teacher = 0; teacher < TEACHERS; teacher++) {
                set |= (school.subjectsOf(teacher) >> subject & 1) << teacher;
            }
            return set;
        }

        /** The least teacher with whom so many lessons as are due are still taken; NONE if it is best left. */
        private int leastTaker(int lesson, int due) {
            for (int teacher = 0; teacher < TEACHERS; teacher++) {
                int others = spare & ~(1 << teacher);
                boolean isAble = (able[lesson] & spare & ~others) != 0;
                if (isAble && 1 + mostTaken(able, needy, others, lesson + 1) >= due) {
                    return teacher;
                }
            }
            return NONE;
        }

        /** The most lessons of a set that teachers of a set can take; the calls go by the lessons' numbers. */
        private static int mostTaken(int[] able, int lessons, int teachers, int from) {
            int lesson = from;
            while (lesson < LESSONS && (lessons >> lesson & 1) == 0) {
                lesson++;
            }
            if (lesson >= LESSONS) {
                return 0;
            }
            int greatest = mostTaken(able, lessons, teachers, lesson + 1);
            for (int teacher = 0; teacher < TEACHERS; teacher++) {
                int bit = 1 << teacher;
                if ((able[lesson] & teachers & bit) != 0) {
                    greatest = Math.max(greatest, 1 + mostTaken(able, lessons, teachers & ~bit, lesson + 1));
                }
            }
            return greatest;
        }

        /** 1 if a lesson that is left could be taken by a teacher who takes none at its slot, else 0. */
        int faults(School school) {
            for (int slot = 0; slot < SLOTS; slot++) {
                plan(school, slot);
                for (int lesson = 0; lesson < school.lessonTotal(); lesson++) {
                    if ((left >> lesson & 1) != 0 && (able[lesson] & spare) != 0) {
                        return 1;
                    }
                }
            }
            return 0;
        }
    }

    /** Days and groups of exams. */
    private static final class Exams {
        final int[] dayOf = new int[EXAMS];

        /** Puts the plan into the row for it; answers the days needed. */
        int plan(School school) {
            int days = 1;
            // eight days are always enough, so the loop ends with a plan
            while (!canHold(school, dayOf, 0, 0, days) && days < EXAMS) {
                days++;
            }
            return days;
        }

        /** Whether the exams from one on find days, if those ahead of it have begun so many days. */
        private static boolean canHold(School school, int[] dayOf, int exam, int begun, int days) {
            if (exam >= EXAMS) {
                return true;
            }
            // a day that is not begun is as good as the least one of these, so only this one is tried
            for (int day = 0; day < days && day <= begun; day++) {
                if (isFree(school, dayOf, exam, day)) {
                    dayOf[exam] = day;
                    if (canHold(school, dayOf, exam + 1, Math.max(begun, day + 1), days)) {
                        return true;
                    }
                }
            }
            return false;
        }

        private static boolean isFree(School school, int[] dayOf, int exam, int day) {
            for (int other = 0; other < exam; other++) {
                if (dayOf[other] == day && (school.apartFrom(exam) >> other & 1) != 0) {
                    return false;
                }
            }
            return true;
        }

        int greatestGroup(School school) {
            int greatest = 0;
            for (int set = 1; set < 1 << EXAMS; set++) {
                if (Integer.bitCount(set) > Integer.bitCount(greatest) && isGroup(school, set)) {
                    greatest = set;
                }
            }
            return greatest;
        }

        private boolean isGroup(School school, int set) {
            for (int exam = 0; exam < EXAMS; exam++) {
                int others = set & ~(1 << exam);
                if (others != set && (others & ~school.apartFrom(exam)) != 0) {
                    return false;
                }
            }
            return true;
        }

        int faults(School school) {
            int days = plan(school);
            boolean isWrong = Integer.bitCount(greatestGroup(school)) > days;
            for (int exam = 0; exam < EXAMS; exam++) {
                isWrong |= !isFree(school, dayOf, exam, dayOf[exam]);
            }
            return isWrong ? 1 : 0;
        }
    }

    /** The minutes at which hours begin and end. */
    private static final class Bells {
        final int[] begins = new int[DAYS];
        final int[] lengths = new int[DAYS];
        final int[] pauses = new int[DAYS];

        Bells() {
            for (int day = 0; day < DAYS; day++) {
                begins[day] = 480;
                lengths[day] = 45;
                pauses[day] = 10;
            }
        }

        void put(int day, int begin, int length, int pause) {
            begins[day] = begin;
            lengths[day] = length;
            pauses[day] = pause;
        }

        int minute(int slot, boolean isEnd) {
            int day = slot / HOURS;
            int begin = begins[day] + slot % HOURS * (lengths[day] + pauses[day]);
            return isEnd ? begin + lengths[day] : begin;
        }
    }

    /** The year; dates are counted as days behind 1970-01-01, places as days behind its begin. */
    private static final class Year {
        static final int WEEKS = 40;
        static final int LENGTH = WEEKS * 7;
        static final int MOST_HOLIDAYS = 10;
        static final int DAYS_OF_ERA = 146097;
        static final int DAYS_TO_1970 = 719468;
        static final int FIRST_MONDAY = 4;
        static final int FIRST_BEGIN = 20703;

        final boolean[] isOff = new boolean[LENGTH];
        int begin = FIRST_BEGIN;
        int holidayTotal;

        boolean isDate(int date) {
            int ofYear = date / 10000;
            int month = date / 100 % 100;
            int day = date % 100;
            return ofYear >= 2000 && ofYear <= 2099 && month >= 1 && month <= 12
                    && day >= 1 && day <= monthLength(ofYear, month);
        }

        private int monthLength(int ofYear, int month) {
            if (month == 2) {
                boolean isLeap = ofYear % 4 == 0 && (ofYear % 100 != 0 || ofYear % 400 == 0);
                return isLeap ? 29 : 28;
            }
            return month == 4 || month == 6 || month == 9 || month == 11 ? 30 : 31;
        }

        /** Counts in years that begin in March, so that the leap day is the last one of a year. */
        int serialOf(int date) {
            int month = date / 100 % 100;
            int marchYear = date / 10000 - (month <= 2 ? 1 : 0);
            int inEra = marchYear % 400;
            int marchMonth = (month + 9) % 12;
            int inYear = (153 * marchMonth + 2) / 5 + date % 100 - 1;
            return marchYear / 400 * DAYS_OF_ERA + inEra * 365 + inEra / 4 - inEra / 100 + inYear - DAYS_TO_1970;
        }

        int dateAt(int serial) {
            int fromMarch0 = serial + DAYS_TO_1970;
            int inEra = fromMarch0 % DAYS_OF_ERA;
            int yearOfEra = (inEra - inEra / 1460 + inEra / 36524 - inEra / 146096) / 365;
            int inYear = inEra - (365 * yearOfEra + yearOfEra / 4 - yearOfEra / 100);
            int marchMonth = (5 * inYear + 2) / 153;
            int day = inYear - (153 * marchMonth + 2) / 5 + 1;
            int month = marchMonth < 10 ? marchMonth + 3 : marchMonth - 9;
            int ofYear = fromMarch0 / DAYS_OF_ERA * 400 + yearOfEra + (month <= 2 ? 1 : 0);
            return ofYear * 10000 + month * 100 + day;
        }

        int weekday(int serial) {
            return Math.floorMod(serial - FIRST_MONDAY, 7);
        }

        int beginAt(int serial) {
            int before = dateAt(begin);
            begin = serial;
            holidayTotal = 0;
            for (int place = 0; place < LENGTH; place++) {
                isOff[place] = false;
            }
            return before;
        }

        int addHoliday(int first, int last) {
            for (int place = Math.max(first - begin, 0); place < LENGTH && place <= last - begin; place++) {
                isOff[place] = true;
            }
            holidayTotal++;
            return holidayTotal;
        }

        boolean isSchoolDay(int place) {
            return place >= 0 && place < LENGTH && place % 7 < DAYS && !isOff[place];
        }

        int daysBetween(int from, int to) {
            int total = 0;
            for (int place = from; place < to; place++) {
                total += isSchoolDay(place) ? 1 : 0;
            }
            return total;
        }

        /** 0 for A, 1 for B, NONE if a week is no school week. */
        int letterOf(int week) {
            int ahead = 0;
            for (int other = 0; other < week; other++) {
                ahead += isSchoolWeek(other) ? 1 : 0;
            }
            return isSchoolWeek(week) ? ahead % 2 : NONE;
        }

        private boolean isSchoolWeek(int week) {
            return daysBetween(week * 7, week * 7 + 7) > 0;
        }

        int holidaysOn(int day) {
            int total = 0;
            for (int week = 0; week < WEEKS; week++) {
                total += isOff[week * 7 + day] ? 1 : 0;
            }
            return total;
        }
    }

    /** The tape with the text to be read, and the text that was written. */
    private static final class Tape {
        static final int MOST = 100;
        static final int PLACE_WIDTH = 4;

        final int[] slots = new int[LESSONS];
        final char[] written = new char[LESSONS * PLACE_WIDTH];
        int length;
        int errorAt = NONE;
        int writtenTotal;

        private final int[] bytes = new int[MOST];
        private int seen;
        private int current;

        int signsIn(int word) {
            int total = 0;
            for (int shift = 24; shift >= 0; shift -= 8) {
                total += (word >> shift & 255) != 0 ? 1 : 0;
            }
            return total;
        }

        void add(int word) {
            for (int shift = 24; shift >= 0; shift -= 8) {
                int sign = word >> shift & 255;
                if (sign != 0 && length < MOST) {
                    bytes[length] = sign;
                    length++;
                }
            }
        }

        int empty() {
            int before = length;
            length = 0;
            return before;
        }

        /** Puts the table of the text into the row for it, or the error position; answers whether it has no error. */
        boolean parse(School school) {
            seen = 0;
            errorAt = NONE;
            int step = 0;
            for (int index = 0; index < length; index++) {
                int sign = bytes[index];
                if (sign != ' ' && sign != '\n') {
                    if (!accepts(school, step, sign)) {
                        errorAt = index;
                        return false;
                    }
                    step = (step + 1) % PLACE_WIDTH;
                }
            }
            if (step != 0 || seen != (1 << school.lessonTotal()) - 1) {
                errorAt = length;
            }
            return errorAt == NONE;
        }

        private boolean accepts(School school, int step, int sign) {
            switch (step) {
                case 0:
                    return acceptsLesson(school, sign - '0');
                case 1:
                    return acceptsDay(sign);
                case 2:
                    return acceptsHour(school, sign - '0');
                default:
                    return sign == ';';
            }
        }

        private boolean acceptsLesson(School school, int number) {
            if (number < 0 || number >= school.lessonTotal() || (seen >> number & 1) != 0) {
                return false;
            }
            seen |= 1 << number;
            current = number;
            return true;
        }

        private boolean acceptsDay(int sign) {
            for (int day = 0; day < DAYS; day++) {
                if (letterOfDay(day) == sign) {
                    slots[current] = day * HOURS;
                    return true;
                }
            }
            return false;
        }

        private boolean acceptsHour(School school, int hour) {
            if (hour < 0 || hour >= HOURS - school.ofLesson(current, School.DOUBLE)) {
                return false;
            }
            slots[current] += hour;
            return true;
        }

        private char letterOfDay(int day) {
            return "mtwhf".charAt(day);
        }

        int print(School school) {
            writtenTotal = 0;
            for (int lesson = 0; lesson < school.lessonTotal(); lesson++) {
                int slot = school.table[lesson];
                written[writtenTotal] = (char) ('0' + lesson);
                written[writtenTotal + 1] = letterOfDay(slot / HOURS);
                written[writtenTotal + 2] = (char) ('0' + slot % HOURS);
                written[writtenTotal + 3] = ';';
                writtenTotal += PLACE_WIDTH;
            }
            return writtenTotal;
        }
    }
}
