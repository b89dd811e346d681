import java.util.concurrent.Callable;

/** Schools that tests begin with, and what can be read of them as texts. */
final class Schools {
    static final int NONE = Schoolhours.NONE;
    /** Numbers that are no dates from 2000 to 2099: next to them, far from them, and at the ends of an int. */
    static final int[] NO_DATES = {0, 1, -1, 19991231, 19991232, 20000100, 20991232, 21000101, 20000001, 20001301,
        20260229, 20240230, 20000230, 20260431, 20260631, 20260931, 20261131, 20260132, 20261232, 20260199, 20269907,
        20260900, 2026907, 202609070, 1999123, -20260907, 1_020_260_907, 20260907 + (1 << 30), Integer.MIN_VALUE,
        Integer.MIN_VALUE + 20260907, Integer.MAX_VALUE};
    private static final String DAY_LETTERS = "mtwhf";

    private Schools() {
    }

    /** Lessons told as words: class, teacher, subject, kind of room or -, and 2 if double; as 000- or 1230 2. */
    static Schoolhours school(String lessons) {
        Schoolhours x = new Schoolhours();
        add(x, lessons);
        return x;
    }

    static void add(Schoolhours x, String lessons) {
        for (String word : lessons.trim().split(" +")) {
            if (!word.isEmpty()) {
                int kind = word.charAt(3) == '-' ? NONE : word.charAt(3) - '0';
                x.lesson(word.charAt(0) - '0', word.charAt(1) - '0', word.charAt(2) - '0', kind, word.endsWith("/2"));
            }
        }
    }

    /** Wishes told as sort, a, b, weight, by fours. */
    static Schoolhours wish(Schoolhours x, int... cells) {
        for (int at = 0; at < cells.length; at += 4) {
            x.wish(cells[at], cells[at + 1], cells[at + 2], cells[at + 3]);
        }
        return x;
    }

    /** Nine lessons, twelve wishes, a table that is not the first one, and all else told; more than 20 changes. */
    static Schoolhours full() {
        Schoolhours x = new Schoolhours();
        x.setSubjects(5, 0b101001);
        x.setRooms(0, 2);
        x.setRooms(1, 1);
        add(x, "0000/2 0111 1022 111-/2 2230 2330 3441 355- 0500");
        wish(x, 0, 0, 0, 5, 1, 1, 1, 3, 2, 4, 0, 0, 3, 7, 9, 0, 4, 0, 1, 0, 5, 4, 6, 0);
        wish(x, 6, 2, 4, 0, 0, 5, 19, 9, 1, 3, 0, 0, 2, 8, 4, 1, 3, 6, 6, 2, 6, 5, 0, 4);
        x.setIll(0, 0, true);
        x.setIll(1, 0, true);
        x.setIll(5, 2, true);
        x.setApart(0, 7, true);
        x.setApart(6, 7, true);
        x.setApart(6, 0, true);
        x.find();
        x.improve();
        x.move(5, 19);
        x.write();
        for (int day = 0; day < 5; day++) {
            x.setBells(day, 420 + day, 30 + day, day);
        }
        x.setYear(20270906);
        for (int i = 0; i < 10; i++) {
            x.holiday(20271001 + i, 20271002 + i);
        }
        refuse(x, "0m0 9");
        type(x, "0m0;");
        return x;
    }

    /** Five lessons with some wishes and a table, and less than 20 changes. */
    static Schoolhours some() {
        Schoolhours x = school("0000/2 0111 1022 111- 2230/2");
        wish(x, 0, 0, 0, 5, 6, 2, 4, 0, 3, 1, 2, 0, 4, 3, 2, 7);
        x.setIll(0, 0, true);
        x.setApart(2, 4, true);
        x.find();
        x.move(4, 18);
        x.write();
        x.move(4, 17);
        x.holiday(20260909, 20260909);
        type(x, "0m0;1m2;2m3;3t0;4f2;");
        return x;
    }

    /** Three lessons without a right table, but with a proof. */
    static Schoolhours stuck() {
        Schoolhours x = school("000- 111- 222-");
        x.find();
        x.write();
        wish(x, 3, 0, 5, 0, 3, 1, 2, 9, 4, 0, 1, 0, 2, 1, 1, 0);
        x.setIll(5, 4, true);
        x.find();
        type(x, "0m0;1m0; 2");
        return x;
    }

    static void type(Schoolhours x, String text) {
        for (int at = 0; at < text.length(); at += 4) {
            int word = 0;
            for (int i = at; i < at + 4 && i < text.length(); i++) {
                word = word << 8 | text.charAt(i);
            }
            x.append(word, 0, 0, 0, 0);
        }
    }

    /** Makes the table of a text the present one; answers its cost. */
    static int put(Schoolhours x, String text) {
        x.clearTape();
        type(x, text);
        return x.read();
    }

    /** Makes the table with these slots the present one; answers its cost. */
    static int put(Schoolhours x, int... slots) {
        StringBuilder text = new StringBuilder();
        for (int lesson = 0; lesson < slots.length; lesson++) {
            text.append(place(lesson, slots[lesson]));
        }
        return put(x, text.toString());
    }

    static String place(int lesson, int slot) {
        return lesson + "" + DAY_LETTERS.charAt(slot / 4) + slot % 4 + ";";
    }

    /** Whether a table with these slots is right (a double lesson at the hour 3 makes it wrong). */
    static boolean isRight(Schoolhours x, int... slots) {
        try {
            put(x, slots);
            return true;
        } catch (IllegalStateException | IllegalArgumentException e) {
            return false;
        }
    }

    /** Reads a text that is wrong. */
    static Object refuse(Schoolhours x, String text) {
        x.clearTape();
        type(x, text);
        return answer(x::read);
    }

    static Object answer(Callable<Object> call) {
        try {
            return call.call();
        } catch (Exception e) {
            return e.getClass();
        }
    }

    static String slots(Schoolhours x) {
        StringBuilder text = new StringBuilder();
        for (int lesson = 0; lesson < x.lessons(); lesson++) {
            text.append(lesson == 0 ? "" : " ").append(x.slotOf(lesson));
        }
        return text.toString();
    }

    static String firstTable(Schoolhours x) {
        return x.find() ? slots(x) : "none";
    }

    static String lessons(Schoolhours x) {
        StringBuilder text = new StringBuilder();
        for (int lesson = 0; lesson < x.lessons(); lesson++) {
            int kind = x.lessonOf(lesson, 3);
            text.append(lesson == 0 ? "" : " ").append(x.lessonOf(lesson, 0)).append(x.lessonOf(lesson, 1))
                .append(x.lessonOf(lesson, 2)).append(kind == NONE ? "-" : "" + kind)
                .append(x.lessonOf(lesson, 4) == 1 ? "/2" : "");
        }
        return text.toString();
    }

    static String wishes(Schoolhours x) {
        StringBuilder text = new StringBuilder();
        for (int wish = 0; wish < x.wishes(); wish++) {
            text.append(wish == 0 ? "" : ", ");
            for (int what = 0; what < 4; what++) {
                text.append(what == 0 ? "" : " ").append(x.wishOf(wish, what));
            }
        }
        return text.toString();
    }

    static String proof(Schoolhours x) {
        StringBuilder text = new StringBuilder();
        for (int place = 0; place < x.proof(); place++) {
            text.append(place == 0 ? "" : " ").append(x.proofAt(place));
        }
        return text.toString();
    }

    static String rooms(Schoolhours x) {
        StringBuilder text = new StringBuilder();
        for (int lesson = 0; lesson < x.lessons(); lesson++) {
            text.append(lesson == 0 ? "" : " ").append(x.roomOf(lesson));
        }
        return text.toString();
    }

    static String colours(Schoolhours x) {
        StringBuilder text = new StringBuilder();
        for (int lesson = 0; lesson < x.lessons(); lesson++) {
            text.append(lesson == 0 ? "" : " ").append(x.colour(lesson));
        }
        return text.toString();
    }

    static String substitutes(Schoolhours x, int slot) {
        StringBuilder text = new StringBuilder();
        for (int lesson = 0; lesson < x.lessons(); lesson++) {
            text.append(lesson == 0 ? "" : " ").append(x.substitute(lesson, slot));
        }
        return text.toString();
    }

    static String examDays(Schoolhours x) {
        StringBuilder text = new StringBuilder();
        for (int exam = 0; exam < 8; exam++) {
            text.append(x.examDay(exam));
        }
        return text.toString();
    }

    static String written(Schoolhours x) {
        StringBuilder text = new StringBuilder();
        for (int index = 0; index < 100; index++) {
            int at = index;
            Object sign = answer(() -> x.writtenAt(at));
            if (sign instanceof Character) {
                text.append(sign);
            }
        }
        return text.toString();
    }
}
