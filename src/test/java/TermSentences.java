import java.util.ArrayList;
import java.util.List;
import java.util.concurrent.Callable;
import java.util.function.Supplier;

/** The terms 1 to 4 of the document, sentence by sentence: the school, tables, gaps and moves, colours. */
public final class TermSentences {
    private static final int NONE = Schoolhours.NONE;
    private static final Class<?> IAE = Sentences.IAE;
    private static final Class<?> ISE = Sentences.ISE;

    /** What is due for the slots of two lessons. */
    private interface OfSlots {
        boolean holds(int one, int other);
    }

    public static void main(String[] args) {
        constants();
        numbers();
        lessons();
        wishes();
        sorts();
        rightTables();
        firstTables();
        presentTable();
        proofs();
        rooms();
        costs();
        moves();
        bestMoves();
        colours();
        Sentences.end();
    }

    private static void sentence(String words, Runnable test) {
        Sentences.sentence(words, test);
    }

    private static void is(Object due, Callable<Object> call) {
        Sentences.is(due, call);
    }

    private static void constants() {
        Sentences.part("Constants");
        sentence("The constants: `NONE = -1`: The absence of a number.", () -> is(-1, () -> Schoolhours.NONE));
    }

    // ---- Term 1.

    private static void numbers() {
        Sentences.part("Term 1");
        sentence("There are the classes 0 to 3, the teachers 0 to 5, the subjects 0 to 5, the days 0 to 4 (Monday to"
            + " Friday) with the hours 0 to 3, and three kinds of rooms, 0 to 2.", TermSentences::allNumbers);
        sentence("The slots are the hours of all days, numbered from 0: 4 times the day plus the hour.", () -> {
            for (int place = 0; place < 20; place++) {
                int slot = place;
                Schoolhours x = Schools.school("000-");
                is(0, () -> Schools.put(x, "0" + "mtwhf".charAt(slot / 4) + slot % 4 + ";"));
                is(slot, () -> x.slotOf(0));
                is(slot, () -> x.slotAt(slot / 4, 480 + 55 * (slot % 4)));
            }
        });
        sentence("Of each kind of room there are 3 at first (0 to 3).", () -> {
            for (int number = 0; number < 3; number++) {
                int kind = number;
                Schoolhours x = new Schoolhours();
                is(3, () -> x.setRooms(kind, 0));
                is(0, () -> x.setRooms(kind, 1));
                is(1, () -> x.setRooms(kind, 2));
                is(2, () -> x.setRooms(kind, 3));
                is(3, () -> x.setRooms(kind, 3));
                is("0 0 0 1", () -> Schools.firstTable(Schools.school("000K 111K 222K 333K".replace("K", "" + kind))));
                Sentences.beyond(IAE, 0, 3, (y, rooms) -> y.setRooms(kind, rooms));
            }
        });
        sentence("A teacher can teach the subjects of a set, all at first (sets are told as sums of 2 to the power of"
            + " each number).", () -> {
                for (int place = 0; place < 36; place++) {
                    int teacher = place / 6;
                    int subject = place % 6;
                    is(0, () -> new Schoolhours().lesson(0, teacher, subject, NONE, false));
                    is(63, () -> new Schoolhours().setSubjects(teacher, 1 << subject));
                }
                for (int place = 0; place < 64 * 36; place++) {
                    int set = place / 36;
                    int teacher = place / 6 % 6;
                    int subject = place % 6;
                    Schoolhours x = new Schoolhours();
                    x.setSubjects(teacher, set);
                    is((set >> subject & 1) == 1 ? 0 : IAE, () -> x.lesson(0, teacher, subject, NONE, false));
                    is((set >> subject & 1) == 1 ? 1 : 0, () -> x.lesson(0, (teacher + 1) % 6, subject, NONE, false));
                }
            });
    }

    private static void allNumbers() {
        for (int kind = 0; kind < 3; kind++) {
            for (int group = 0; group < 4; group++) {
                for (int teacher = 0; teacher < 6; teacher++) {
                    int[] row = {group, teacher, (teacher + group) % 6, kind};
                    Schoolhours x = new Schoolhours();
                    is(0, () -> x.lesson(row[0], row[1], row[2], row[3], false));
                    is(true, x::find);
                    is(0, () -> x.lessonAt(false, row[0], 0));
                    is(0, () -> x.lessonAt(true, row[1], 0));
                    is(row[2], () -> x.lessonOf(0, 2));
                }
            }
        }
        for (int place = 0; place < 20; place++) {
            int slot = place;
            is(480 + 55 * (slot % 4), () -> new Schoolhours().bell(slot, false));
            is(false, () -> new Schoolhours().setIll(0, slot / 4, true));
        }
        is("mtwhf", () -> {
            StringBuilder letters = new StringBuilder();
            for (int day = 0; day < 5; day++) {
                Schoolhours x = Schools.school("000-");
                Schools.put(x, 4 * day);
                x.write();
                letters.append(x.writtenAt(1));
            }
            return letters.toString();
        });
        Sentences.beyond(IAE, 0, 3, (x, group) -> x.lesson(group, 0, 0, 0, false));
        Sentences.beyond(IAE, 0, 5, (x, teacher) -> x.lesson(0, teacher, 0, 0, false));
        Sentences.beyond(IAE, 0, 5, (x, subject) -> x.lesson(0, 0, subject, 0, false));
        Sentences.beyond(IAE, 0, 4, (x, day) -> x.setIll(0, day, true));
        Sentences.beyond(IAE, 0, 19, (x, slot) -> x.bell(slot, false));
        Sentences.beyond(IAE, 0, 2, (x, kind) -> x.setRooms(kind, 3));
    }

    private static final String NINE = "0000/2 0111 1022 111- 2230 2330 3441 355-/2 0500";

    private static void lessons() {
        sentence("There are at most 9 lessons, numbered from 0 as they come, each of a class, a teacher, a subject, a"
            + " kind of room or none, and single or double.", () -> {
                Schoolhours x = new Schoolhours();
                String[] words = NINE.split(" ");
                for (int i = 0; i < 9; i++) {
                    int number = i;
                    Schools.add(x, words[number]);
                    is(number + 1, x::lessons);
                }
                is(NINE, () -> Schools.lessons(x));
                Sentences.refused(ISE, Schools::full, y -> y.lesson(0, 0, 0, NONE, false));
                is(8, () -> x.dropLesson(4));
                is(8, () -> x.lesson(3, 3, 3, 0, true));
                is("333" + "0/2", () -> Schools.lessons(x).substring(Schools.lessons(x).lastIndexOf(' ') + 1));
                is(ISE, () -> x.lesson(3, 3, 3, 0, true));
            });
        sentence("A lesson takes the slot at which it begins; a double one also the next one, and cannot begin at the"
            + " hour 3.", () -> {
                for (int slot = 0; slot < 20; slot++) {
                    slotsTaken("214-", slot, 1);
                    slotsTaken("214-/2", slot, 2);
                }
            });
        sentence("When a lesson goes, those behind it get a number that is less by 1; wishes that name it go.", () -> {
            int[][] wishes = {{0, 4, 8, 1}, {1, 3, 4, 2}, {2, 0, 4, 3}, {2, 8, 0, 4}, {3, 4, 8, 5}, {3, 8, 0, 0},
                {4, 0, 8, 7}, {4, 4, 5, 8}, {5, 5, 4, 9}, {5, 8, 7, 0}, {6, 1, 2, 1}, {6, 3, 0, 0}};
            for (int dropped = 0; dropped < 9; dropped++) {
                lessonGoes(dropped, wishes);
            }
            int[][] backwards = new int[12][];
            for (int i = 0; i < 12; i++) {
                backwards[i] = wishes[11 - i];
            }
            for (int dropped = 0; dropped < 9; dropped++) {
                lessonGoes(dropped, backwards);
            }
        });
    }

    private static void slotsTaken(String lesson, int begin, int length) {
        Schoolhours x = Schools.school(lesson);
        x.find();
        if (length == 2 && begin % 4 == 3) {
            is(ISE, () -> x.move(0, begin));
            is(IAE, () -> Schools.put(x, begin));
            is(2, x::errorPosition);
            return;
        }
        is(0, () -> x.move(0, begin));
        for (int i = 0; i < 20; i++) {
            int slot = i;
            int due = slot >= begin && slot < begin + length ? 0 : NONE;
            is(due, () -> x.lessonAt(false, 2, slot));
            is(due, () -> x.lessonAt(true, 1, slot));
            is(NONE, () -> x.lessonAt(false, 1, slot));
            is(NONE, () -> x.lessonAt(true, 2, slot));
        }
        is(0, () -> Schools.put(x, begin));
    }

    private static void lessonGoes(int dropped, int[][] told) {
        Schoolhours x = Schools.school(NINE);
        List<String> due = new ArrayList<>();
        for (int[] w : told) {
            x.wish(w[0], w[1], w[2], w[3]);
            boolean goes = w[0] >= 2 && w[1] == dropped || w[0] >= 4 && w[2] == dropped;
            if (!goes) {
                int a = w[0] >= 2 && w[1] > dropped ? w[1] - 1 : w[1];
                int b = w[0] >= 4 && w[2] > dropped ? w[2] - 1 : w[2];
                due.add(w[0] + " " + a + " " + b + " " + w[3]);
            }
        }
        is(8, () -> x.dropLesson(dropped));
        List<String> words = new ArrayList<>(List.of(NINE.split(" ")));
        words.remove(dropped);
        is(String.join(" ", words), () -> Schools.lessons(x));
        is(String.join(", ", due), () -> Schools.wishes(x));
        is(Sentences.IOOBE, () -> x.lessonOf(8, 0));
        is(Sentences.IOOBE, () -> x.wishOf(due.size(), 0));
    }

    private static void wishes() {
        sentence("There are at most 12 wishes, numbered from 0 as they come; when one goes, those behind it get a number"
            + " that is less by 1.", () -> {
                for (int dropped = 0; dropped < 12; dropped++) {
                    wishGoes(dropped);
                }
                Sentences.refused(ISE, Schools::full, x -> x.wish(0, 0, 0, 0));
            });
        sentence("A wish has a weight from 0 to 9; with the weight 0 it is hard.", () -> {
            for (int i = 0; i <= 9; i++) {
                int weight = i;
                Schoolhours x = Schools.wish(Schools.school("000-"), 3, 0, 7, weight);
                is(weight == 0 ? "7" : "0", () -> Schools.firstTable(x));
                is(weight, x::cost);
                is(weight, () -> x.wishOf(0, 3));
                is(weight == 0, () -> !Schools.isRight(x, 6));
                is(true, () -> Schools.isRight(x, 7));
            }
            Sentences.beyond(IAE, 0, 9, (x, weight) -> x.wish(0, 0, 0, weight));
        });
    }

    private static void wishGoes(int dropped) {
        Schoolhours x = Schools.school("000- 111-");
        List<String> due = new ArrayList<>();
        for (int i = 0; i < 12; i++) {
            int number = i;
            is(number, () -> x.wish(number % 4, number % 2, number % 5, 9 - number % 10));
            due.add(number % 4 + " " + number % 2 + " " + number % 5 + " " + (9 - number % 10));
        }
        is(ISE, () -> x.wish(0, 0, 0, 0));
        is(12, x::wishes);
        is(11, () -> x.dropWish(dropped));
        due.remove(dropped);
        is(String.join(", ", due), () -> Schools.wishes(x));
        is(11, () -> x.wish(6, 0, 1, 0));
        is(ISE, () -> x.wish(0, 0, 0, 0));
    }

    private static void sorts() {
        sentence("Their sorts are: ```text", () -> {
            Schoolhours x = Schools.school("000- 111-");
            for (int i = 0; i < 7; i++) {
                int sort = i;
                is(sort, () -> x.wish(sort, 0, 1, 1));
            }
            Sentences.beyond(IAE, 0, 6, (y, sort) -> y.wish(sort, 0, 1, 1));
        });
        sentence("0 the teacher a has no lesson at the slot b;", () -> {
            for (int b = 0; b < 20; b++) {
                int slot = b;
                sort(0, 0, b, (one, other) -> one != slot && one + 1 != slot);
                sort(0, 1, b, (one, other) -> other != slot);
                sort(0, 5, b, (one, other) -> true);
            }
        });
        sentence("1 the class a has none at the slot b;", () -> {
            for (int b = 0; b < 20; b++) {
                int slot = b;
                sort(1, 1, b, (one, other) -> one != slot && one + 1 != slot);
                sort(1, 3, b, (one, other) -> other != slot);
                sort(1, 0, b, (one, other) -> true);
            }
        });
        sentence("2 the lesson a is not on the day b;", () -> {
            for (int b = 0; b < 5; b++) {
                int day = b;
                sort(2, 0, b, (one, other) -> one / 4 != day);
                sort(2, 1, b, (one, other) -> other / 4 != day);
            }
        });
        sentence("3 the lesson a begins at the slot b;", () -> {
            for (int b = 0; b < 20; b++) {
                int slot = b;
                sort(3, 0, b, (one, other) -> one == slot);
                sort(3, 1, b, (one, other) -> other == slot);
            }
        });
        sentence("4 the lessons a and b are on one day;", () -> {
            sort(4, 0, 1, (one, other) -> one / 4 == other / 4);
            sort(4, 1, 0, (one, other) -> one / 4 == other / 4);
        });
        sentence("5 the lessons a and b are not on one day;", () -> {
            sort(5, 0, 1, (one, other) -> one / 4 != other / 4);
            sort(5, 1, 0, (one, other) -> one / 4 != other / 4);
        });
        sentence("6 the lesson a begins ahead of the lesson b. ```", () -> {
            sort(6, 0, 1, (one, other) -> one < other);
            sort(6, 1, 0, (one, other) -> other < one);
        });
    }

    /** One wish, soft and hard, at all tables of a double lesson (class 1, teacher 0) and a single one (3, 1). */
    private static void sort(int sort, int a, int b, OfSlots due) {
        for (int first = 0; first < 20; first++) {
            Schoolhours soft = Schools.wish(Schools.school("100-/2 311-"), sort, a, b, 3);
            Schoolhours hard = Schools.wish(Schools.school("100-/2 311-"), sort, a, b, 0);
            for (int second = 0; second < 20 && first % 4 != 3; second++) {
                int one = first;
                int other = second;
                boolean holds = due.holds(one, other);
                is(holds ? 0 : 3, () -> Schools.put(soft, one, other));
                is(holds, () -> soft.holds(0));
                is(holds, () -> Schools.isRight(hard, one, other));
            }
        }
    }

    // ---- Term 2.

    private static boolean overlap(int one, int lengthOfOne, int other, int lengthOfOther) {
        return one < other + lengthOfOther && other < one + lengthOfOne;
    }

    private static void rightTables() {
        Sentences.part("Term 2");
        sentence("A table tells for each lesson the slot at which it begins.", () -> {
            Schoolhours x = Schools.school(NINE);
            Schools.put(x, 16, 1, 9, 3, 13, 5, 19, 0, 7);
            is("16 1 9 3 13 5 19 0 7", () -> Schools.slots(x));
        });
        sentence("It is right if no class and no teacher has two lessons at one slot, two lessons of one class in one"
            + " subject are not on one day, at no slot more lessons need a kind of room than there are rooms of it, and"
            + " all hard wishes hold.", () -> {
                personsOfPairs();
                roomsOfPairs();
                fullSlots(1, "0000 1110");
                fullSlots(2, "0000 1110 2220");
                fullSlots(3, "0000 1110 2220 3330");
                wishesOfPairs();
            });
        sentence("(Each lesson is also within its bounds: a double one begins at the hours 0 to 2.)", () -> {
            Schoolhours x = Schools.school("000-/2");
            for (int i = 0; i < 20; i++) {
                int slot = i;
                is(slot % 4 != 3, () -> Schools.isRight(x, slot));
            }
            is(14, () -> x.choices(0));
            // the next day begins behind the hour 3, but a double lesson cannot go over it
            Schoolhours y = Schools.wish(Schools.school("000-/2"), 0, 0, 1, 0, 0, 0, 2, 0);
            is("4", () -> Schools.firstTable(y));
        });
    }

    private static void personsOfPairs() {
        for (int lengths = 0; lengths < 4; lengths++) {
            int ofOne = 1 + lengths % 2;
            int ofOther = 1 + lengths / 2;
            OfSlots apart = (one, other) -> !overlap(one, ofOne, other, ofOther);
            pair("000- 011-", ofOne, ofOther, 3, apart);
            pair("000- 101-", ofOne, ofOther, 3, apart);
            pair("000- 100-", ofOne, ofOther, 3, apart);
            pair("000- 001-", ofOne, ofOther, 3, apart);
            pair("000- 010-", ofOne, ofOther, 3, (one, other) -> one / 4 != other / 4);
            pair("000- 000-", ofOne, ofOther, 3, (one, other) -> one / 4 != other / 4);
            pair("000- 110-", ofOne, ofOther, 3, (one, other) -> true);
            pair("355- 245-", ofOne, ofOther, 3, (one, other) -> true);
        }
    }

    private static void roomsOfPairs() {
        for (int lengths = 0; lengths < 4; lengths++) {
            int ofOne = 1 + lengths % 2;
            int ofOther = 1 + lengths / 2;
            pair("0000 1110", ofOne, ofOther, 1, (one, other) -> !overlap(one, ofOne, other, ofOther));
            pair("0000 1110", ofOne, ofOther, 2, (one, other) -> true);
            pair("0000 1110", ofOne, ofOther, 0, (one, other) -> false);
            pair("0000 1111", ofOne, ofOther, 1, (one, other) -> true);
            pair("0000 1111", ofOne, ofOther, 0, (one, other) -> false);
            pair("0001 111-", ofOne, ofOther, 0, (one, other) -> true);
        }
    }

    /** Two lessons at all slots of all days, with so many rooms of the kind 0. */
    private static void pair(String lessons, int ofOne, int ofOther, int rooms, OfSlots due) {
        String[] words = lessons.split(" ");
        for (int first = 0; first < 20; first++) {
            Schoolhours x = Schools.school(words[0] + (ofOne == 2 ? "/2 " : " ") + words[1] + (ofOther == 2 ? "/2" : ""));
            x.setRooms(0, rooms);
            for (int second = 0; second < 20; second++) {
                int one = first;
                int other = second;
                boolean isWithin = (ofOne == 1 || one % 4 != 3) && (ofOther == 1 || other % 4 != 3);
                is(isWithin && due.holds(one, other), () -> Schools.isRight(x, one, other));
            }
        }
    }

    /** Lessons of one kind, one more than there are rooms, of all lengths at all hours of a day. */
    private static void fullSlots(int rooms, String lessons) {
        String[] words = lessons.split(" ");
        int n = words.length;
        for (int lengths = 0; lengths < 1 << n; lengths++) {
            for (int hours = 0; hours < 1 << 2 * n; hours++) {
                int[] slots = new int[n];
                int[] needed = new int[5];
                boolean isRight = true;
                StringBuilder told = new StringBuilder();
                for (int i = 0; i < n; i++) {
                    boolean isDouble = (lengths >> i & 1) == 1;
                    int hour = hours >> 2 * i & 3;
                    slots[i] = 16 + hour;
                    needed[hour]++;
                    needed[hour + 1] += isDouble ? 1 : 0;
                    isRight &= !isDouble || hour != 3;
                    told.append(words[i]).append(isDouble ? "/2 " : " ");
                }
                for (int hour = 0; hour < 4; hour++) {
                    isRight &= needed[hour] <= rooms;
                }
                Schoolhours x = Schools.school(told.toString());
                x.setRooms(0, rooms);
                is(isRight, () -> Schools.isRight(x, slots));
            }
        }
    }

    private static void wishesOfPairs() {
        for (int first = 0; first < 20; first++) {
            Schoolhours x = Schools.wish(Schools.school("000- 111-"), 6, 0, 1, 0, 4, 0, 1, 0, 0, 1, 7, 0, 3, 0, 19, 9);
            for (int second = 0; second < 20; second++) {
                int one = first;
                int other = second;
                boolean due = one < other && one / 4 == other / 4 && other != 7;
                is(due, () -> Schools.isRight(x, one, other));
            }
        }
    }

    private static void firstTables() {
        sentence("The first table is, of all right ones, the one in which lesson 0 begins at the least slot, of these the"
            + " one in which lesson 1 does, and so on; without lessons it is the empty one, and right.", () -> {
                first(() -> Schools.school("000-"));
                first(() -> Schools.school("000-/2 010- 020-"));
                first(() -> Schools.school("000-/2 011-/2 022-/2"));
                first(() -> Schools.school("0000/2 1110/2 2220"));
                first(() -> Schools.wish(Schools.school("000- 111- 222-"), 6, 1, 0, 0, 6, 2, 1, 0));
                first(() -> Schools.wish(Schools.school("000- 011- 102-"), 2, 0, 0, 0, 4, 2, 0, 0, 6, 2, 1, 0));
                first(() -> Schools.wish(Schools.school("000-/2 011- 002-"), 5, 0, 1, 0, 0, 0, 0, 0, 1, 0, 5, 0));
                first(() -> Schools.wish(Schools.school("000- 000-"), 3, 1, 0, 0, 0, 0, 4, 0, 1, 0, 5, 0));
                first(() -> Schools.wish(Schools.school("000- 111-/2"), 3, 0, 19, 0, 6, 0, 1, 0));
                first(() -> Schools.wish(Schools.school("000- 111-"), 6, 0, 1, 0, 3, 1, 19, 0, 2, 0, 0, 0));
                Schoolhours x = new Schoolhours();
                is(true, x::find);
                is(17, x::checksum);
                is(0, x::cost);
                is(0, () -> Schools.put(new Schoolhours(), ""));
                is("15 16 17 18 19", () -> Schools.firstTable(last()));
                lateFirstTables();
            });
    }

    private static final String NINE_OF_CLASS =
        "000-/2 011-/2 022-/2 033-/2 044-/2 050-/2 001-/2 012-/2 023-/2";

    /** Schools in which the table that comes to mind, all lessons as early as can be day by day, is not the first. */
    private static void lateFirstTables() {
        // Monday could take both, but then lesson 0 would stand behind lesson 1
        first(() -> Schools.wish(Schools.school("000- 011-"), 0, 1, 1, 0, 0, 1, 2, 0, 0, 1, 3, 0));
        firstIs("0 4 1 2", "000- 011- 022- 033-", 0, 1, 1, 0, 1, 2, 0, 1, 3, 0, 2, 0, 0, 2, 2, 0, 2, 3, 0, 3, 0, 0, 3, 1,
            0, 3, 3);
        // lesson 0 on one of the first days leaves no day to the lessons 3 and 4
        firstIs("8 0 4 0 4", "000- 111- 122- 030- 040-", 2, 3, 2, 2, 3, 3, 2, 3, 4, 2, 4, 2, 2, 4, 3, 2, 4, 4, 1, 1, 1, 1,
            1, 2, 1, 1, 3);
        firstIs("4 0 4 0 8", "000- 111- 122- 030- 040-", 2, 3, 1, 2, 3, 3, 2, 3, 4, 2, 4, 1, 2, 4, 3, 2, 4, 4, 1, 1, 1, 1,
            1, 2, 1, 1, 3);
        first(() -> Schools.wish(Schools.school("300-/2 210- 200-/2"), 2, 0, 0, 0, 2, 2, 1, 0, 2, 0, 1, 0, 6, 2, 0, 0));
        first(() -> Schools.wish(Schools.school("220-/2 150- 150-"), 2, 2, 1, 0, 5, 1, 0, 0, 6, 1, 0, 0, 6, 2, 0, 0));
        firstIs("5 12 0 8 2", "204-/2 204-/2 103-/2 001-/2 102-/2", 4, 2, 4, 6, 4, 3, 0, 0, 4, 2, 1, 2, 5, 3, 4, 2, 0, 3,
            6, 4, 0);
        // six lessons of a class in one subject find no six days
        firstIs("none", "010- 000- 020- 010- 010-/2 010-", 2, 4, 2, 2, 4, 1);
        firstIs("0 4 8 12 16", "010- 000- 020- 010- 010-/2");
        // two lessons, one behind the other, leave their place on Monday to lesser ones
        firstIs("0 0 4 4", "000- 111- 022- 133-", 0, 2, 1, 0, 2, 2, 0, 2, 3, 0, 3, 1, 0, 3, 2, 0, 3, 3);
        firstIs("1 0 4 4", "000- 111- 022- 133-", 0, 2, 0, 0, 2, 2, 0, 2, 3, 1, 0, 0, 0, 3, 1, 0, 3, 2, 0, 3, 3);
        // nine lessons of a class
        firstIs("1 4 6 8 10 12 14 16 18", NINE_OF_CLASS, 0, 0, 0);
        firstIs("2 0 4 6 8 10 12 14 16", NINE_OF_CLASS, 1, 0, 19, 0, 5, 0, 0, 0, 1);
        // two must be ahead of a third one, two behind it
        firstIs("2 0 1", "000- 011- 022-", 6, 1, 0, 6, 2, 0);
        firstIs("0 1 2", "000- 011- 022-", 6, 0, 1, 6, 0, 2);
        firstIs("4 0 0 1", "000- 111- 022- 133-", 6, 1, 0, 6, 3, 0, 5, 0, 1, 5, 0, 3);
    }

    /** The first table with hard wishes told by threes, without their weights. */
    private static void firstIs(String due, String lessons, int... wishes) {
        Schoolhours x = Schools.school(lessons);
        for (int at = 0; at < wishes.length; at += 3) {
            x.wish(wishes[at], wishes[at + 1], wishes[at + 2], 0);
        }
        is(due, () -> Schools.firstTable(x));
    }

    /** Five lessons of one class that stand in their order, the first of them not ahead of slot 15. */
    private static Schoolhours last() {
        return Schools.wish(Schools.school("000- 011- 022- 033- 044-"), 6, 0, 1, 0, 6, 1, 2, 0, 6, 2, 3, 0, 6, 3, 4, 0,
            3, 0, 15, 0);
    }

    /** The first table that a school with at most three lessons reads, of all in their order, is the first table. */
    private static void first(Supplier<Schoolhours> made) {
        int n = made.get().lessons();
        int total = n == 1 ? 20 : n == 2 ? 400 : 8000;
        Schoolhours x = made.get();
        String due = "none";
        for (int number = 0; number < total && due.equals("none"); number++) {
            if (number % 40 == 0) {
                x = made.get();
            }
            int[] slots = new int[n];
            for (int i = n - 1, rest = number; i >= 0; i--, rest /= 20) {
                slots[i] = rest % 20;
            }
            if (Schools.isRight(x, slots)) {
                due = Schools.slots(x);
            }
        }
        is(due, () -> Schools.firstTable(made.get()));
    }

    private static void presentTable() {
        sentence("There is a present table, or none (at first).", () -> {
            Sentences.refused(ISE, Schoolhours::new, Schoolhours::cost);
            Sentences.refused(ISE, Schoolhours::new, Schoolhours::write);
            is(0, () -> new Schoolhours().checksum());
            Schoolhours x = Schools.school("000-");
            is(ISE, () -> x.slotOf(0));
            x.find();
            is(0, () -> x.slotOf(0));
        });
        sentence("It goes whenever a lesson, a wish, a teacher's subjects or the rooms are changed (also if they are told"
            + " as they were).", () -> {
                goes(true, x -> x.lesson(0, 0, 0, NONE, false));
                goes(true, x -> x.dropLesson(0));
                goes(true, x -> x.dropLesson(4));
                goes(true, x -> x.wish(0, 5, 19, 9));
                goes(true, x -> x.wish(0, 5, 19, 0));
                goes(true, x -> x.dropWish(3));
                goes(true, x -> x.setSubjects(0, 63));
                goes(true, x -> x.setSubjects(5, 0));
                goes(true, x -> x.setRooms(2, 3));
                goes(true, x -> x.setRooms(0, 2));
                goes(false, x -> x.setIll(1, 1, true));
                goes(false, x -> x.setApart(1, 2, true));
                goes(false, x -> x.setBells(0, 480, 45, 10));
                goes(false, x -> x.setYear(20260907));
                goes(false, x -> x.holiday(20260907, 20260907));
                goes(false, x -> x.append('x', 0, 0, 0, 0));
                goes(false, Schoolhours::clearTape);
                goes(false, Schoolhours::write);
                goes(false, Schoolhours::errors);
            });
    }

    private static void goes(boolean isGone, Sentences.Call call) {
        Schoolhours x = Schools.some();
        int before = x.checksum();
        Schools.answer(() -> call.on(x));
        is(isGone ? 0 : before, x::checksum);
        is(isGone ? ISE : x.cost(), x::cost);
    }

    private static void proofs() {
        sentence("If there is no right table, the proof is found so: from the first hard wish to the last one, each is"
            + " left out if there is still no right table without it and without those that were left out ahead of it;"
            + " the others are the proof.", () -> {
                // each alone could be left out, but not all of them
                proof("1 2", "000-", 3, 0, 5, 0, 3, 0, 6, 0, 3, 0, 7, 0);
                proof("1 2", "000-", 3, 0, 5, 0, 3, 0, 5, 0, 3, 0, 6, 0);
                proof("0 2", "000-", 3, 0, 5, 0, 3, 0, 5, 9, 3, 0, 6, 0, 3, 0, 7, 1);
                proof("2 3", "000- 111-", 6, 0, 1, 0, 6, 1, 0, 0, 4, 0, 1, 0, 5, 0, 1, 0);
                proof("1 2 3 4 5", "000-", 0, 0, 0, 0, 2, 0, 4, 0, 2, 0, 3, 0, 2, 0, 2, 0, 2, 0, 1, 0, 2, 0, 0, 0);
                proof("0 1 2 3 4 5 6 7 8 9 10 11", "000- 111-", 4, 0, 1, 0, 2, 1, 2, 0, 2, 1, 3, 0, 2, 1, 4, 0, 0, 0, 0, 0,
                    0, 0, 1, 0, 0, 0, 2, 0, 0, 0, 3, 0, 1, 0, 4, 0, 1, 0, 5, 0, 1, 0, 6, 0, 1, 0, 7, 0);
                // no wish is to blame
                proof("", "000- 010- 020- 030- 040- 050-", 3, 0, 1, 0, 3, 0, 2, 0);
                proof("", "000- 010- 020- 030- 040- 050-");
                proof("", "000- 010- 020- 030- 040- 050-", 3, 0, 1, 9);
                Schoolhours x = Schools.wish(Schools.school("0000 111-"), 3, 0, 1, 0);
                x.setRooms(0, 0);
                is(false, x::find);
                is(0, x::proof);
            });
    }

    /** The proof is the one told, and the one that follows by finding tables of schools with less wishes. */
    private static void proof(String due, String lessons, int... wishes) {
        Schoolhours x = Schools.wish(Schools.school(lessons), wishes);
        is(false, x::find);
        is(due, () -> Schools.proof(x));
        List<Integer> kept = new ArrayList<>();
        for (int i = 0; i < wishes.length / 4; i++) {
            if (wishes[4 * i + 3] == 0) {
                kept.add(i);
            }
        }
        for (int i = 0; i < wishes.length / 4; i++) {
            List<Integer> less = new ArrayList<>(kept);
            if (less.remove(Integer.valueOf(i))) {
                Schoolhours y = Schools.school(lessons);
                for (int wish : less) {
                    y.wish(wishes[4 * wish], wishes[4 * wish + 1], wishes[4 * wish + 2], 0);
                }
                kept = y.find() ? kept : less;
            }
        }
        StringBuilder text = new StringBuilder();
        for (int wish : kept) {
            text.append(text.length() == 0 ? "" : " ").append(wish);
        }
        is(text.toString(), () -> Schools.proof(x));
    }

    private static void rooms() {
        sentence("The rooms of a kind are numbered from 0.", () -> {
            for (int kind = 0; kind < 3; kind++) {
                String lessons = "000K 111K 222K 333- 344Q".replace("K", "" + kind).replace("Q", "" + (kind + 1) % 3);
                Schoolhours x = Schools.school(lessons);
                Schools.put(x, 0, 0, 0, 0, 1);
                is("0 1 2 -1 0", () -> Schools.rooms(x));
            }
        });
        sentence("Each lesson of a right table that needs a kind has a room: by the slots at which they begin, of several"
            + " by their numbers, each one gets the least room of its kind that no lesson ahead of it has at its"
            + " slots.", () -> {
                roomsOf("0 0 0", "0000 1110 2220", 0, 1, 2);
                roomsOf("0 1 2", "0000 1110 2220", 19, 19, 19);
                roomsOf("0 1 0", "0000 1110 2220", 7, 7, 6);
                // a double lesson that begins ahead holds its room in its second hour, and leaves it then
                roomsOf("1 2 0", "0000 1110 2220/2", 1, 1, 0);
                roomsOf("1 0 0", "0000 1110/2 2220", 1, 0, 2);
                roomsOf("0 1 0", "0000/2 1110/2 2220/2", 2, 1, 0);
                roomsOf("2 0 1", "0000/2 1110/2 2220/2", 1, 0, 0);
                // the hour 3 and the hour 0 of the next day do not meet
                roomsOf("0 0 1", "0000 1110/2 2220", 4, 2, 3);
                // other kinds, and lessons without one, do not matter
                roomsOf("0 0 -1", "0001 1110/2 222-", 1, 0, 0);
                roomsOf("-1 -1 -1", "000- 111- 222-", 0, 0, 0);
            });
    }

    private static void roomsOf(String due, String lessons, int... slots) {
        Schoolhours x = Schools.school(lessons);
        Schools.put(x, slots);
        is(due, () -> Schools.rooms(x));
    }

    // ---- Term 3.

    private static void costs() {
        Sentences.part("Term 3");
        sentence("The cost of a table is the number of its gaps, and the weights of the wishes, not hard, that do not"
            + " hold.", () -> {
                is(0, () -> Schools.put(new Schoolhours()));
                Schoolhours x = Schools.school("000- 011- 102-");
                is(3, () -> Schools.put(x, 0, 3, 2));
                is(2, () -> Schools.put(x, 0, 3, 1 + 18));
                is(0, () -> Schools.put(x, 0, 4, 8));
                Schools.wish(x, 3, 0, 0, 9, 3, 1, 0, 7, 4, 0, 1, 2, 2, 2, 0, 4, 3, 0, 0, 0);
                is(3 + 7 + 4, () -> Schools.put(x, 0, 3, 2));
                is(7 + 2, () -> Schools.put(x, 0, 4, 8));
                Schoolhours y = Schools.school("000-");
                for (int i = 0; i < 12; i++) {
                    y.wish(3, 0, i + 1, 9);
                }
                is(12 * 9, () -> Schools.put(y, 0));
                is(11 * 9, () -> Schools.put(y, 12));
            });
        sentence("A gap of a class (a teacher) is an hour of a day at which it has no lesson, but one at an earlier hour"
            + " and one at a later hour of this day.", () -> {
                for (int day = 0; day < 5; day++) {
                    for (int hours = 0; hours < 16; hours++) {
                        gapsOfDay(day, hours);
                    }
                }
                // hours of two days make no gap, and a double lesson is no gap in its second hour
                gapsOfClass("000- 011-", 0, 3, 4);
                gapsOfClass("000- 011-", 0, 0, 19);
                gapsOfClass("000-/2 011-", 1, 0, 3);
                gapsOfClass("000-/2 011-", 1, 2, 0);
                gapsOfClass("000-/2 011-", 0, 1, 3);
                gapsOfClass("000-/2 011-/2", 0, 16, 18);
            });
    }

    /** The gaps of a class and of a teacher with single lessons at the hours of a set. */
    private static void gapsOfDay(int day, int hours) {
        int gaps = 0;
        for (int hour = 0; hour < 4; hour++) {
            boolean isEmpty = (hours >> hour & 1) == 0;
            gaps += isEmpty && (hours & (1 << hour) - 1) != 0 && hours >> hour != 0 ? 1 : 0;
        }
        int due = gaps;
        StringBuilder ofClass = new StringBuilder();
        StringBuilder ofTeacher = new StringBuilder();
        int[] slots = new int[Integer.bitCount(hours)];
        int n = 0;
        for (int hour = 0; hour < 4; hour++) {
            if ((hours >> hour & 1) == 1) {
                ofClass.append("2").append(n).append(n).append("- ");
                ofTeacher.append(n).append("3").append(n).append("- ");
                slots[n] = 4 * day + hour;
                n++;
            }
        }
        Schoolhours x = Schools.school(ofClass.toString());
        is(due, () -> Schools.put(x, slots));
        is(due, () -> x.gaps(false, 2));
        is(0, () -> x.gaps(true, 0));
        Schoolhours y = Schools.school(ofTeacher.toString());
        is(due, () -> Schools.put(y, slots));
        is(due, () -> y.gaps(true, 3));
        is(0, () -> y.gaps(false, 0));
    }

    private static void gapsOfClass(String lessons, int due, int... slots) {
        Schoolhours x = Schools.school(lessons);
        is(due, () -> Schools.put(x, slots));
        is(due, () -> x.gaps(false, 0));
    }

    private static void moves() {
        sentence("A move puts one lesson to another slot, or two lessons to the slots of each other, so that the table is"
            + " right.", () -> {
                improved("000- 011-", "0 3", 2, "2 3");
                // the day of the other is full, so only an exchange helps
                improved(FOUR, "0 1 2 3", 5, "1 0 2 3", wishesOfFour(3, 0, 1, 5));
                improved(FOUR, "0 1 2 3", 1, "1 0 2 3", wishesOfFour(3, 0, 1, 1));
                // nearer slots are not right: a teacher, a subject, a room, a hard wish
                improved("000- 011- 112-", "0 3 1", 3, "0 4 1", 3, 0, 0, 0, 3, 2, 1, 0);
                improved("000- 010-", "0 8", 5, "0 4", 3, 1, 1, 5, 3, 1, 4, 5, 3, 0, 0, 9, 3, 1, 0, 9);
                improved("0000 1110 2220 3330", "0 0 0 1", 0, "0 0 0 1", 3, 3, 0, 9, 3, 0, 0, 0, 3, 1, 0, 0, 3, 2, 0, 0);
                improved("000- 011-", "0 1", 0, "0 1", 3, 0, 1, 9, 3, 1, 0, 9, 3, 0, 0, 0);
                improved("000-/2 111-", "0 3", 0, "0 3", 3, 0, 3, 9);
                improved("000-/2 011-", "4 7", 1, "0 7");
            });
    }

    private static final String FOUR = "000- 011- 022- 033-";

    /** Wishes that keep four lessons on one day, and others. */
    private static int[] wishesOfFour(int... others) {
        int[] all = new int[12 + others.length];
        System.arraycopy(new int[] {4, 0, 1, 0, 4, 1, 2, 0, 4, 2, 3, 0}, 0, all, 0, 12);
        System.arraycopy(others, 0, all, 12, others.length);
        return all;
    }

    /** From one table the best move leads to another one, or to none if the gain is 0. */
    private static void improved(String lessons, String from, int gain, String to, int... wishes) {
        Schoolhours x = Schools.wish(Schools.school(lessons), wishes);
        String[] words = from.split(" ");
        int[] slots = new int[words.length];
        for (int i = 0; i < slots.length; i++) {
            slots[i] = Integer.parseInt(words[i]);
        }
        int before = Schools.put(x, slots);
        is(gain, x::improve);
        is(to, () -> Schools.slots(x));
        is(before - gain, x::cost);
        is(0, x::errors);
        int changes = words.length + wishes.length / 4 + 1 + (gain > 0 ? 1 : 0);
        is(changes - 1, x::undo);
    }

    private static void bestMoves() {
        sentence("The best move is the one behind which the cost is least; of several one lesson goes ahead of two, then"
            + " the lesser lesson (of two the pair with the lesser first one, then the lesser second one), then the"
            + " lesser slot.", () -> {
                // the least cost, not the first one that is less
                improved("000- 111-", "0 0", 3, "0 9", 3, 0, 9, 2, 3, 1, 9, 3);
                improved("000-", "0", 9, "19", 3, 0, 1, 3, 3, 0, 19, 9);
                // also when the exchange is the better one, and when it is as good only
                improved("000- 111-", "0 1", 10, "1 0", 3, 0, 1, 5, 3, 1, 0, 5);
                improved("000- 111-", "0 1", 5, "1 1", 3, 0, 1, 5);
                improved("000- 111-", "9 2", 5, "9 9", 3, 1, 9, 5);
                // the lesser lesson, though the other one has a lesser slot
                improved("000- 111-", "0 4", 5, "4 4", 4, 0, 1, 5);
                improved("000- 111- 222-", "9 4 0", 5, "9 0 0", 4, 2, 1, 5);
                // the lesser slot
                improved("000-", "0", 5, "4", 2, 0, 0, 5);
                improved("000-", "19", 5, "0", 2, 0, 4, 5);
                improved("000-/2", "2", 5, "4", 2, 0, 0, 5);
                // of two, the lesser first one, then the lesser second one
                improved(FOUR, "0 1 2 3", 5, "3 1 2 0", wishesOfFour(3, 0, 3, 5, 3, 1, 2, 5));
                improved(FOUR, "0 1 2 3", 5, "1 0 2 3", wishesOfFour(3, 0, 3, 5, 3, 0, 1, 5));
                improved(FOUR, "0 1 2 3", 6, "0 1 3 2", wishesOfFour(3, 0, 3, 5, 3, 2, 3, 6));
            });
        sentence("It is done if the cost becomes less by it.", () -> {
            improved("000-", "7", 0, "7");
            improved("000-", "7", 0, "7", 2, 0, 0, 1, 2, 0, 1, 1, 2, 0, 2, 1, 2, 0, 3, 1, 2, 0, 4, 1);
            improved("000-", "7", 1, "0", 2, 0, 0, 1, 2, 0, 1, 2, 2, 0, 2, 1, 2, 0, 3, 1, 2, 0, 4, 1);
            Schoolhours empty = new Schoolhours();
            empty.find();
            is(0, empty::improve);
        });
    }

    // ---- Term 4.

    private static void colours() {
        Sentences.part("Term 4");
        sentence("Colours are numbered from 0.", () -> coloured("000-", "0"));
        sentence("The lessons are coloured one by one, in their order: a lesson gets the least colour that no lesson,"
            + " coloured ahead, of its class or its teacher has, if this is less than the most lessons that a class or a"
            + " teacher has.", () -> {
                coloured("000- 111- 222- 333-", "0 0 0 0");
                coloured("000- 010- 020- 030- 040- 050- 000- 010- 020-", "0 1 2 3 4 5 6 7 8");
                coloured("000- 100- 200- 300- 000- 100- 200- 300- 000-", "0 1 2 3 4 5 6 7 8");
                coloured("000- 110- 010- 100-", "0 0 1 1");
                coloured("000- 010- 110- 100-", "0 1 0 1");
                coloured("000- 000- 110- 110- 010-", "0 1 0 1 2");
            });
        sentence("Otherwise p is the least colour that its class has free, q the least one that its teacher has free; the"
            + " way of p and q that begins at the teacher is turned: from the teacher on by its lesson with the colour p,"
            + " from the class of this by that one's lesson with q, and so on by turns, as far as it goes; all lessons on"
            + " the way get the other one of both colours; then the lesson gets p.", () -> {
                // ways of one lesson, two, three, four, five and six lessons; no way is longer
                coloured("120- 220- 020- 310- 310- 010-", "0 1 2 2 1 0");
                coloured("000- 010- 120- 110-", "1 0 0 1");
                coloured("050- 120- 220- 110- 010-", "0 1 0 0 1");
                coloured("050- 230- 120- 220- 110- 010-", "0 1 1 0 0 1");
                coloured("110- 310- 040- 200- 340- 130- 230-", "1 0 0 0 1 0 1");
                coloured("110- 310- 130- 040- 320- 030- 250- 220-", "0 1 1 1 0 0 0 1");
            });
        sentence("(Double lessons count like others here; subjects, rooms, wishes and slots do not matter.)", () -> {
            String due = "0 1 1 0 0 1";
            coloured("050-/2 230-/2 120-/2 220-/2 110-/2 010-/2", due);
            coloured("0510 2321 1232/2 224- 1150 0100", due);
            Schoolhours x = Schools.wish(Schools.school("050- 230- 120- 220- 110- 010-"), 3, 0, 17, 0, 6, 5, 1, 0, 0, 1, 0, 0);
            x.setRooms(0, 0);
            is(due, () -> Schools.colours(x));
            x.find();
            is(due, () -> Schools.colours(x));
            x.move(2, 18);
            is(due, () -> Schools.colours(x));
        });
    }

    private static void coloured(String lessons, String due) {
        Schoolhours x = Schools.school(lessons);
        is(due, () -> Schools.colours(x));
        is(0, x::errors);
    }
}
