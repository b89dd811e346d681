import java.time.LocalDate;
import java.time.temporal.ChronoUnit;
import java.util.ArrayDeque;
import java.util.ArrayList;
import java.util.Arrays;
import java.util.Deque;
import java.util.List;
import java.util.concurrent.Callable;

/**
 * Long runs of calls with numbers that follow from a seed, each held against a plain second school
 * that is written down from the document's words without regard for time.
 */
public final class ModelRuns {
    private static final int NONE = -1;
    private static final int CALLS = 512;

    private static long seed;
    private static int wrong;
    private static int asked;
    private static int called;
    private static int found;
    private static int proofs;
    private static int gains;
    private static int rejected;
    private static int lefts;
    private static int abandoned;

    private static int below(int bound) {
        seed = seed * 6364136223846793005L + 1442695040888963407L;
        return (int) ((seed >>> 33) % bound);
    }

    /** Mostly a number in range, now and then one just beyond it or far off. */
    private static int near(int least, int bound) {
        int sort = below(40);
        if (sort == 0) {
            return least - 1;
        }
        if (sort == 1) {
            return bound;
        }
        if (sort == 2) {
            return below(2) == 0 ? Integer.MIN_VALUE : Integer.MAX_VALUE;
        }
        return least + below(Math.max(bound - least, 1));
    }

    public static void main(String[] args) {
        int runs = args.length > 0 ? Integer.parseInt(args[0]) : 250;
        for (int run = 0; run < runs && wrong < 20; run++) {
            seed = 977L * run + 5;
            oneRun(run);
        }
        System.out.println(asked + " answers in " + runs + " runs, " + wrong + " wrong; " + found + " tables, "
            + proofs + " proofs, " + gains + " gains, " + lefts + " without substitute, " + rejected
            + " exceptions, " + abandoned + " runs left because the plain search was too long");
        boolean isThin = found < runs || proofs < runs || gains < runs / 2 || lefts < runs / 3 || abandoned > runs / 10;
        System.exit(wrong == 0 && !isThin ? 0 : 1);
    }

    private static void oneRun(int run) {
        Schoolhours x = new Schoolhours();
        Model m = new Model();
        StringBuilder told = new StringBuilder();
        called = 0;
        int style = below(4);
        for (int teacher = 0; teacher < 6 && style == 3; teacher++) {
            int t = teacher;
            int set = 1 << below(6) | 1 << below(6) | 1 << below(6);
            same(run, told, "setSubjects " + t + " " + set, () -> x.setSubjects(t, set), () -> m.setSubjects(t, set));
            boolean isIll = t > 1;
            same(run, told, "setIll " + t + " 0 " + isIll, () -> x.setIll(t, 0, isIll), () -> m.setIll(t, 0, isIll));
        }
        try {
            for (int call = 0; called < CALLS && wrong < 20 && call < CALLS; call++) {
                oneCall(run, x, m, style, told);
            }
        } catch (TooLong e) {
            abandoned++;
        }
    }

    private static final class TooLong extends RuntimeException {
        private static final long serialVersionUID = 1L;
    }

    private static void same(int run, StringBuilder told, String call, Callable<Object> got, Callable<Object> due) {
        if (called == CALLS) {
            return;
        }
        called++;
        asked++;
        Object wanted = answer(due);
        Object given = answer(got);
        told.append(call).append(" = ").append(wanted).append('\n');
        if (wanted instanceof String && ((String) wanted).startsWith("throws")) {
            rejected++;
        }
        if (!wanted.equals(given)) {
            wrong++;
            System.out.println("run " + run + ": " + call + " answered " + given + ", due is " + wanted);
            if (wrong == 1) {
                System.out.println(told);
            }
        }
    }

    private static Object answer(Callable<Object> call) {
        try {
            return call.call();
        } catch (TooLong e) {
            throw e;
        } catch (Exception e) {
            return "throws " + e.getClass().getSimpleName();
        }
    }

    private static void oneCall(int run, Schoolhours x, Model m, int style, StringBuilder told) {
        int lessons = m.now.lessons.size();
        int wishes = m.now.wishes.size();
        int pick = below(100);
        if (pick < 8) {
            if (lessons >= 8 && below(10) > 0) {
                return;
            }
            int[] r = {near(0, 4), near(0, 6), near(0, style == 1 ? 2 : 6), below(3) == 0 ? NONE : near(0, 3), below(2)};
            if (style == 2) {
                r[0] = near(0, 2);
            }
            same(run, told, "lesson" + Arrays.toString(r), () -> x.lesson(r[0], r[1], r[2], r[3], r[4] == 1),
                () -> m.lesson(r));
        } else if (pick < 9) {
            int a = near(0, lessons);
            same(run, told, "dropLesson " + a, () -> x.dropLesson(a), () -> m.dropLesson(a));
        } else if (pick < 11) {
            int a = near(0, 6);
            int b = below(3) > 0 ? style > 1 ? 1 << below(6) | 1 << below(6) | m.given(a) : near(0, 64) : 63;
            same(run, told, "setSubjects " + a + " " + b, () -> x.setSubjects(a, b), () -> m.setSubjects(a, b));
        } else if (pick < 13) {
            int a = near(0, 3);
            int b = near(below(3) == 0 ? 0 : 1, 4);
            same(run, told, "setRooms " + a + " " + b, () -> x.setRooms(a, b), () -> m.setRooms(a, b));
        } else if (pick < 20) {
            int sort = style == 2 && below(3) > 0 ? 4 + below(3) : near(0, 7);
            int a = sort == 0 ? near(0, 6) : sort == 1 ? near(0, 4) : near(0, lessons);
            int b = sort <= 1 || sort == 3 ? near(0, 20) : sort == 2 ? near(0, 5) : near(0, lessons);
            int weight = below(style == 3 ? 2 : 4) == 0 ? near(1, 10) : 0;
            int w = weight;
            same(run, told, "wish " + sort + " " + a + " " + b + " " + w, () -> x.wish(sort, a, b, w),
                () -> m.wish(sort, a, b, w));
        } else if (pick < 23) {
            int a = near(0, wishes);
            same(run, told, "dropWish " + a, () -> x.dropWish(a), () -> m.dropWish(a));
        } else if (pick < 32) {
            same(run, told, "find", x::find, m::find);
            same(run, told, "proof", x::proof, m::proof);
            for (int i = 0; i < 6; i++) {
                questions(run, x, m, told, 66 + below(34));
            }
        } else if (pick < 35) {
            int a = near(0, 3);
            same(run, told, "proofAt " + a, () -> x.proofAt(a), () -> m.proofAt(a));
        } else if (pick < 39) {
            int a = near(0, lessons);
            int b = near(0, 20);
            same(run, told, "move " + a + " " + b, () -> x.move(a, b), () -> m.move(a, b));
        } else if (pick < 44) {
            same(run, told, "improve", x::improve, m::improve);
        } else if (pick < 48) {
            int a = near(0, 6);
            int b = below(2) == 0 ? 0 : near(0, 5);
            boolean c = below(4) > 0;
            same(run, told, "setIll " + a + " " + b + " " + c, () -> x.setIll(a, b, c), () -> m.setIll(a, b, c));
        } else if (pick < 52) {
            int a = near(0, 8);
            int b = near(0, 8);
            boolean c = below(4) > 0;
            same(run, told, "setApart " + a + " " + b + " " + c, () -> x.setApart(a, b, c), () -> m.setApart(a, b, c));
        } else if (pick < 56) {
            same(run, told, "undo", x::undo, m::undo);
        } else if (pick < 60) {
            texts(run, x, m, told);
        } else if (pick < 64) {
            years(run, x, m, told);
        } else if (pick < 66) {
            bells(run, x, m, told);
        } else {
            questions(run, x, m, told, pick);
        }
    }

    private static void questions(int run, Schoolhours x, Model m, StringBuilder told, int pick) {
        int a = near(0, m.now.lessons.size());
        int w = near(0, m.now.wishes.size());
        int slot = near(0, 20);
        int what = near(0, 5);
        boolean flag = below(2) == 0;
        int who = near(0, flag ? 6 : 4);
        switch (pick - 66) {
            case 0: same(run, told, "lessonOf " + a + " " + what, () -> x.lessonOf(a, what), () -> m.lessonOf(a, what));
                break;
            case 1: same(run, told, "wishOf " + w + " " + what, () -> x.wishOf(w, what), () -> m.wishOf(w, what));
                break;
            case 2: same(run, told, "lessons", x::lessons, () -> m.now.lessons.size());
                same(run, told, "wishes", x::wishes, () -> m.now.wishes.size());
                break;
            case 3: case 4: same(run, told, "slotOf " + a, () -> x.slotOf(a), () -> m.slotOf(a));
                break;
            case 5: case 6: same(run, told, "lessonAt " + flag + " " + who + " " + slot,
                    () -> x.lessonAt(flag, who, slot), () -> m.lessonAt(flag, who, slot));
                break;
            case 7: case 8: same(run, told, "roomOf " + a, () -> x.roomOf(a), () -> m.roomOf(a));
                break;
            case 9: case 10: same(run, told, "choices " + a, () -> x.choices(a), () -> m.choices(a));
                break;
            case 11: same(run, told, "holds " + w, () -> x.holds(w), () -> m.holds(w));
                break;
            case 12: case 13: same(run, told, "cost", x::cost, m::cost);
                break;
            case 14: same(run, told, "gaps " + flag + " " + who, () -> x.gaps(flag, who), () -> m.gaps(flag, who));
                break;
            case 15: same(run, told, "most", x::most, m::most);
                break;
            case 16: case 17: case 18: same(run, told, "colour " + a, () -> x.colour(a), () -> m.colour(a));
                break;
            case 19: case 20: int day = near(0, 5);
                same(run, told, "ill " + day + " " + flag, () -> x.ill(day, flag), () -> m.ill(day, flag));
                break;
            case 21: case 22: case 23: same(run, told, "substitute " + a + " " + slot, () -> x.substitute(a, slot),
                    () -> m.substitute(a, slot));
                break;
            case 24: int teacher = near(0, 6);
                same(run, told, "takes " + teacher, () -> x.takes(teacher), () -> m.takes(teacher));
                break;
            case 25: same(run, told, "daysNeeded", x::daysNeeded, m::daysNeeded);
                break;
            case 26: case 27: int exam = near(0, 8);
                same(run, told, "examDay " + exam, () -> x.examDay(exam), () -> m.examDay(exam));
                break;
            case 28: same(run, told, "group", x::group, m::group);
                break;
            case 29: same(run, told, "checksum", x::checksum, m::checksum);
                break;
            case 30: same(run, told, "meanSlot", x::meanSlot, m::meanSlot);
                break;
            case 31: same(run, told, "taken", x::taken, m::taken);
                break;
            case 32: same(run, told, "errors", x::errors, () -> 0);
                break;
            default: same(run, told, "lostLessons " + a, () -> x.lostLessons(a), () -> m.lostLessons(a));
        }
    }

    private static void texts(int run, Schoolhours x, Model m, StringBuilder told) {
        int sort = below(6);
        if (sort == 0) {
            same(run, told, "clearTape", x::clearTape, m::clearTape);
        } else if (sort == 1) {
            same(run, told, "write", x::write, m::write);
            int at = near(0, 16);
            same(run, told, "writtenAt " + at, () -> x.writtenAt(at), () -> m.writtenAt(at));
        } else if (sort == 2) {
            int[] p = {below(3) == 0 ? -1 : 0, 0x20200A00, 0x30006D30, 0x3B, below(2) * 0x313B0000};
            same(run, told, "append" + Arrays.toString(p), () -> x.append(p[0], p[1], p[2], p[3], p[4]),
                () -> m.append(p));
            same(run, told, "errorPosition", x::errorPosition, () -> m.errorAt);
        } else {
            String text = someText(m);
            for (int at = 0; at < text.length(); at += 5) {
                int[] p = new int[5];
                for (int i = 0; i < 5 && at + i < text.length(); i++) {
                    p[i] = text.charAt(at + i) << 8 * below(4);
                }
                same(run, told, "append" + Arrays.toString(p), () -> x.append(p[0], p[1], p[2], p[3], p[4]),
                    () -> m.append(p));
            }
            same(run, told, "read", x::read, m::read);
            same(run, told, "errorPosition", x::errorPosition, () -> m.errorAt);
            same(run, told, "checksum", x::checksum, m::checksum);
        }
    }

    /** A text that tells a table, mostly: of the first table with a change or so, or of any slots. */
    private static String someText(Model m) {
        int[] slots = m.first(m.now.hard());
        StringBuilder text = new StringBuilder();
        for (int lesson = m.now.lessons.size() - 1; lesson >= 0; lesson--) {
            int slot = slots != null && below(9) > 0 ? slots[lesson] : below(20);
            text.append(below(9) == 0 ? " " : "").append(lesson).append(below(9) == 0 ? "\n" : "")
                .append("mtwhf".charAt(slot / 4)).append(slot % 4).append(";");
        }
        if (below(4) == 0 && text.length() > 0) {
            int at = below(text.length());
            text.setCharAt(at, "0123456789mtwhf; \nx".charAt(below(19)));
        }
        return text.toString();
    }

    private static int someDate(Model m) {
        int sort = below(12);
        if (sort == 0) {
            return 20000000 + below(1000000);
        }
        LocalDate d = sort < 3 ? LocalDate.of(2000, 1, 1).plusDays(below(36525)) : m.begin.plusDays(below(300) - 10);
        return Model.number(d);
    }

    private static void years(int run, Schoolhours x, Model m, StringBuilder told) {
        int date = someDate(m);
        int sort = below(24);
        if (sort == 0) {
            int serial = below(5000) * 7;
            int monday = below(5) == 0 ? date : Model.number(LocalDate.of(2000, 1, 3).plusDays(serial));
            same(run, told, "setYear " + monday, () -> x.setYear(monday), () -> m.setYear(monday));
        } else if (sort < 4) {
            int to = below(9) == 0 ? someDate(m) : m.laterOrSame(date, below(40));
            same(run, told, "holiday " + date + " " + to, () -> x.holiday(date, to), () -> m.holiday(date, to));
        } else if (sort < 7) {
            same(run, told, "schoolDays", x::schoolDays, () -> m.schoolDates().size());
        } else if (sort < 10) {
            int number = near(0, 200);
            same(run, told, "dateOf " + number, () -> x.dateOf(number), () -> m.dateOf(number));
        } else if (sort < 13) {
            same(run, told, "numberOf " + date, () -> x.numberOf(date), () -> m.numberOf(date));
        } else if (sort < 16) {
            same(run, told, "nextDay " + date, () -> x.nextDay(date), () -> m.nextDay(date));
        } else if (sort < 19) {
            int what = near(0, 3);
            same(run, told, "weekOf " + date + " " + what, () -> x.weekOf(date, what), () -> m.weekOf(date, what));
        } else if (sort < 20) {
            same(run, told, "dayOfWeek " + date, () -> x.dayOfWeek(date), () -> m.dayOfWeek(date));
        } else if (sort < 21) {
            int days = near(-1000, 1001);
            same(run, told, "later " + date + " " + days, () -> x.later(date, days), () -> m.later(date, days));
        } else {
            int group = near(0, 4);
            same(run, told, "lostLessons " + group, () -> x.lostLessons(group), () -> m.lostLessons(group));
        }
    }

    private static void bells(int run, Schoolhours x, Model m, StringBuilder told) {
        int[] b = {near(0, 5), near(420, 601), near(30, 61), near(0, 31)};
        same(run, told, "setBells" + Arrays.toString(b), () -> x.setBells(b[0], b[1], b[2], b[3]), () -> m.setBells(b));
        int slot = near(0, 20);
        boolean isEnd = below(2) == 0;
        same(run, told, "bell " + slot + " " + isEnd, () -> x.bell(slot, isEnd), () -> m.bell(slot, isEnd));
        int day = near(0, 5);
        int minute = below(3) == 0 ? near(0, 1440) : m.bell(Math.min(Math.max(slot, 0), 19), isEnd) + below(3) - 1;
        same(run, told, "slotAt " + day + " " + minute, () -> x.slotAt(day, minute), () -> m.slotAt(day, minute));
    }

    /** What can be undone. */
    private static final class State {
        List<int[]> lessons = new ArrayList<>();
        List<int[]> wishes = new ArrayList<>();
        int[] subjects = {63, 63, 63, 63, 63, 63};
        int[] rooms = {3, 3, 3};
        boolean[][] ill = new boolean[6][5];
        boolean[][] apart = new boolean[8][8];
        int[] table;

        State copy() {
            State c = new State();
            for (int[] l : lessons) {
                c.lessons.add(l.clone());
            }
            for (int[] w : wishes) {
                c.wishes.add(w.clone());
            }
            c.subjects = subjects.clone();
            c.rooms = rooms.clone();
            for (int i = 0; i < 6; i++) {
                c.ill[i] = ill[i].clone();
            }
            for (int i = 0; i < 8; i++) {
                c.apart[i] = apart[i].clone();
            }
            c.table = table == null ? null : table.clone();
            return c;
        }

        List<Integer> hard() {
            List<Integer> list = new ArrayList<>();
            for (int i = 0; i < wishes.size(); i++) {
                if (wishes.get(i)[3] == 0) {
                    list.add(i);
                }
            }
            return list;
        }

        boolean takes(int lesson, int slot, int[] t) {
            return t[lesson] == slot || lessons.get(lesson)[4] == 1 && t[lesson] + 1 == slot;
        }

        boolean holds(int wish, int[] t) {
            int[] w = wishes.get(wish);
            if (w[0] <= 1) {
                for (int i = 0; i < lessons.size(); i++) {
                    if (lessons.get(i)[w[0] == 0 ? 1 : 0] == w[1] && t[i] >= 0 && takes(i, w[2], t)) {
                        return false;
                    }
                }
                return true;
            }
            if (t[w[1]] < 0 || w[0] >= 4 && t[w[2]] < 0) {
                return true;
            }
            switch (w[0]) {
                case 2: return t[w[1]] / 4 != w[2];
                case 3: return t[w[1]] == w[2];
                case 4: return t[w[1]] / 4 == t[w[2]] / 4;
                case 5: return t[w[1]] / 4 != t[w[2]] / 4;
                default: return t[w[1]] < t[w[2]];
            }
        }

        /** Whether a table is right as far as lessons have slots in it (those below 0 have none yet). */
        boolean right(int[] t, List<Integer> hard) {
            for (int i = 0; i < lessons.size(); i++) {
                int[] l = lessons.get(i);
                if (t[i] >= 0) {
                    if (l[4] == 1 && t[i] % 4 == 3 || l[3] != NONE && rooms[l[3]] == 0) {
                        return false;
                    }
                    for (int j = 0; j < i; j++) {
                        if (t[j] >= 0 && meet(i, j, t)) {
                            return false;
                        }
                    }
                }
            }
            for (int slot = 0; slot < 20; slot++) {
                int[] needed = new int[3];
                for (int i = 0; i < lessons.size(); i++) {
                    if (t[i] >= 0 && lessons.get(i)[3] != NONE && takes(i, slot, t)
                            && ++needed[lessons.get(i)[3]] > rooms[lessons.get(i)[3]]) {
                        return false;
                    }
                }
            }
            for (int wish : hard) {
                if (!holds(wish, t)) {
                    return false;
                }
            }
            return true;
        }

        private boolean meet(int i, int j, int[] t) {
            int[] l = lessons.get(i);
            int[] o = lessons.get(j);
            if (l[0] == o[0] && l[2] == o[2] && t[i] / 4 == t[j] / 4) {
                return true;
            }
            for (int slot = 0; slot < 20; slot++) {
                if ((l[0] == o[0] || l[1] == o[1]) && takes(i, slot, t) && takes(j, slot, t)) {
                    return true;
                }
            }
            return false;
        }
    }

    /** The school as the document tells it. */
    private static final class Model {
        State now = new State();
        final Deque<State> past = new ArrayDeque<>();
        List<Integer> proof;
        int[][] bells = {{480, 45, 10}, {480, 45, 10}, {480, 45, 10}, {480, 45, 10}, {480, 45, 10}};
        LocalDate begin = LocalDate.of(2026, 9, 7);
        final List<LocalDate[]> holidays = new ArrayList<>();
        final StringBuilder tape = new StringBuilder();
        int errorAt = NONE;
        String written = "";
        private long nodes;

        private void change() {
            past.addLast(now.copy());
            if (past.size() > 20) {
                past.removeFirst();
            }
            proof = null;
        }

        private static void range(int number, int least, int greatest) {
            if (number < least || number > greatest) {
                throw new IllegalArgumentException();
            }
        }

        private void isLesson(int lesson) {
            if (lesson < 0 || lesson >= now.lessons.size()) {
                throw new IndexOutOfBoundsException();
            }
        }

        private void isWish(int wish) {
            if (wish < 0 || wish >= now.wishes.size()) {
                throw new IndexOutOfBoundsException();
            }
        }

        private void isTable() {
            if (now.table == null) {
                throw new IllegalStateException();
            }
        }

        int lesson(int[] r) {
            range(r[0], 0, 3);
            range(r[1], 0, 5);
            range(r[2], 0, 5);
            range(r[3], -1, 2);
            if ((now.subjects[r[1]] & 1 << r[2]) == 0) {
                throw new IllegalArgumentException();
            }
            if (now.lessons.size() == 9) {
                throw new IllegalStateException();
            }
            change();
            now.lessons.add(r.clone());
            now.table = null;
            return now.lessons.size() - 1;
        }

        int dropLesson(int lesson) {
            isLesson(lesson);
            change();
            now.lessons.remove(lesson);
            now.wishes.removeIf(w -> w[0] >= 2 && w[1] == lesson || w[0] >= 4 && w[2] == lesson);
            for (int[] w : now.wishes) {
                if (w[0] >= 2 && w[1] > lesson) {
                    w[1]--;
                }
                if (w[0] >= 4 && w[2] > lesson) {
                    w[2]--;
                }
            }
            now.table = null;
            return now.lessons.size();
        }

        int lessonOf(int lesson, int what) {
            isLesson(lesson);
            range(what, 0, 4);
            return now.lessons.get(lesson)[what];
        }

        /** The subjects in which a teacher has lessons. */
        int given(int teacher) {
            int set = 0;
            for (int[] l : now.lessons) {
                set |= l[1] == teacher ? 1 << l[2] : 0;
            }
            return set;
        }

        int setSubjects(int teacher, int subjects) {
            range(teacher, 0, 5);
            range(subjects, 0, 63);
            for (int[] l : now.lessons) {
                if (l[1] == teacher && (subjects & 1 << l[2]) == 0) {
                    throw new IllegalStateException();
                }
            }
            change();
            int before = now.subjects[teacher];
            now.subjects[teacher] = subjects;
            now.table = null;
            return before;
        }

        int setRooms(int kind, int rooms) {
            range(kind, 0, 2);
            range(rooms, 0, 3);
            change();
            int before = now.rooms[kind];
            now.rooms[kind] = rooms;
            now.table = null;
            return before;
        }

        int wish(int sort, int a, int b, int weight) {
            range(sort, 0, 6);
            range(weight, 0, 9);
            if (sort == 0) {
                range(a, 0, 5);
            }
            if (sort == 1) {
                range(a, 0, 3);
            }
            if (sort == 0 || sort == 1 || sort == 3) {
                range(b, 0, 19);
            }
            if (sort == 2) {
                range(b, 0, 4);
            }
            if (sort >= 4 && a == b) {
                throw new IllegalArgumentException();
            }
            if (sort >= 2) {
                isLesson(a);
            }
            if (sort >= 4) {
                isLesson(b);
            }
            if (now.wishes.size() == 12) {
                throw new IllegalStateException();
            }
            change();
            now.wishes.add(new int[] {sort, a, b, weight});
            now.table = null;
            return now.wishes.size() - 1;
        }

        int dropWish(int wish) {
            isWish(wish);
            change();
            now.wishes.remove(wish);
            now.table = null;
            return now.wishes.size();
        }

        int wishOf(int wish, int what) {
            isWish(wish);
            range(what, 0, 3);
            return now.wishes.get(wish)[what];
        }

        /** The first right table, all lessons in their order trying the least slots first; null if there is none. */
        int[] first(List<Integer> hard) {
            int[] t = new int[now.lessons.size()];
            Arrays.fill(t, -1);
            nodes = 0;
            for (int i = 0; i < t.length; i++) {
                for (int j = 0; j < i; j++) {
                    if (!hasPair(t, i, j, hard)) {
                        return null;
                    }
                }
            }
            return fill(t, 0, hard) ? t : null;
        }

        private boolean hasPair(int[] t, int i, int j, List<Integer> hard) {
            boolean has = false;
            for (int slot = 0; slot < 20 && !has; slot++) {
                t[i] = slot;
                has = now.right(t, hard) && hasSlot(t, j, hard);
            }
            t[i] = -1;
            return has;
        }

        private boolean hasSlot(int[] t, int lesson, List<Integer> hard) {
            boolean has = false;
            for (int slot = 0; slot < 20 && !has; slot++) {
                t[lesson] = slot;
                has = now.right(t, hard);
            }
            t[lesson] = -1;
            return has;
        }

        private boolean fill(int[] t, int lesson, List<Integer> hard) {
            if (lesson == t.length) {
                return true;
            }
            for (int slot = 0; slot < 20; slot++) {
                if (++nodes > 8000) {
                    throw new TooLong();
                }
                t[lesson] = slot;
                boolean isGood = now.right(t, hard);
                for (int other = lesson + 1; other < t.length && isGood; other++) {
                    isGood = hasSlot(t, other, hard);
                }
                if (isGood && fill(t, lesson + 1, hard)) {
                    return true;
                }
            }
            t[lesson] = -1;
            return false;
        }

        boolean find() {
            int[] t = first(now.hard());
            if (t != null) {
                found++;
                change();
                now.table = t;
                return true;
            }
            List<Integer> kept = now.hard();
            for (int wish : now.hard()) {
                List<Integer> less = new ArrayList<>(kept);
                less.remove(Integer.valueOf(wish));
                if (first(less) == null) {
                    kept = less;
                }
            }
            proofs++;
            proof = kept;
            return false;
        }

        int proof() {
            return proof == null ? NONE : proof.size();
        }

        int proofAt(int place) {
            if (proof == null || place < 0 || place >= proof.size()) {
                throw new IndexOutOfBoundsException();
            }
            return proof.get(place);
        }

        int slotOf(int lesson) {
            isLesson(lesson);
            isTable();
            return now.table[lesson];
        }

        int lessonAt(boolean isTeacher, int who, int slot) {
            range(who, 0, isTeacher ? 5 : 3);
            range(slot, 0, 19);
            isTable();
            for (int i = 0; i < now.lessons.size(); i++) {
                if (now.lessons.get(i)[isTeacher ? 1 : 0] == who && now.takes(i, slot, now.table)) {
                    return i;
                }
            }
            return NONE;
        }

        int roomOf(int lesson) {
            isLesson(lesson);
            isTable();
            List<Integer> order = new ArrayList<>();
            for (int i = 0; i < now.lessons.size(); i++) {
                order.add(i);
            }
            order.sort((i, j) -> now.table[i] != now.table[j] ? now.table[i] - now.table[j] : i - j);
            int[] room = new int[now.lessons.size()];
            Arrays.fill(room, NONE);
            for (int k = 0; k < order.size(); k++) {
                int i = order.get(k);
                int kind = now.lessons.get(i)[3];
                boolean isFree = kind == NONE;
                for (int r = 0; !isFree; r++) {
                    isFree = true;
                    for (int h = 0; h < k; h++) {
                        int j = order.get(h);
                        for (int slot = 0; slot < 20; slot++) {
                            isFree &= now.lessons.get(j)[3] != kind || room[j] != r || !now.takes(j, slot, now.table)
                                || !now.takes(i, slot, now.table);
                        }
                    }
                    room[i] = r;
                }
            }
            return room[lesson];
        }

        int choices(int lesson) {
            isLesson(lesson);
            isTable();
            int total = 0;
            for (int slot = 0; slot < 20; slot++) {
                int[] t = now.table.clone();
                t[lesson] = slot;
                total += slot != now.table[lesson] && now.right(t, now.hard()) ? 1 : 0;
            }
            return total;
        }

        int move(int lesson, int slot) {
            isLesson(lesson);
            range(slot, 0, 19);
            isTable();
            int[] t = now.table.clone();
            t[lesson] = slot;
            if (!now.right(t, now.hard())) {
                throw new IllegalStateException();
            }
            change();
            now.table = t;
            return cost();
        }

        boolean holds(int wish) {
            isWish(wish);
            isTable();
            return now.holds(wish, now.table);
        }

        int gapsOf(boolean isTeacher, int who, int[] t) {
            int total = 0;
            for (int slot = 0; slot < 20; slot++) {
                boolean[] has = new boolean[4];
                for (int hour = 0; hour < 4; hour++) {
                    for (int i = 0; i < now.lessons.size(); i++) {
                        has[hour] |= now.lessons.get(i)[isTeacher ? 1 : 0] == who
                            && now.takes(i, slot / 4 * 4 + hour, t);
                    }
                }
                boolean ahead = false;
                boolean behind = false;
                for (int hour = 0; hour < 4; hour++) {
                    ahead |= hour < slot % 4 && has[hour];
                    behind |= hour > slot % 4 && has[hour];
                }
                total += ahead && behind && !has[slot % 4] ? 1 : 0;
            }
            return total;
        }

        int costOf(int[] t) {
            int sum = 0;
            for (int who = 0; who < 6; who++) {
                sum += gapsOf(true, who, t) + (who < 4 ? gapsOf(false, who, t) : 0);
            }
            for (int i = 0; i < now.wishes.size(); i++) {
                sum += now.wishes.get(i)[3] > 0 && !now.holds(i, t) ? now.wishes.get(i)[3] : 0;
            }
            return sum;
        }

        int cost() {
            isTable();
            return costOf(now.table);
        }

        int gaps(boolean isTeacher, int who) {
            range(who, 0, isTeacher ? 5 : 3);
            isTable();
            return gapsOf(isTeacher, who, now.table);
        }

        int improve() {
            isTable();
            List<int[]> moves = new ArrayList<>();
            int n = now.lessons.size();
            for (int i = 0; i < n; i++) {
                for (int slot = 0; slot < 20; slot++) {
                    int[] t = now.table.clone();
                    t[i] = slot;
                    moves.add(t);
                }
            }
            for (int i = 0; i < n; i++) {
                for (int j = i + 1; j < n; j++) {
                    int[] t = now.table.clone();
                    t[i] = now.table[j];
                    t[j] = now.table[i];
                    moves.add(t);
                }
            }
            moves.removeIf(t -> !now.right(t, now.hard()));
            int[] best = null;
            for (int[] t : moves) {
                best = best == null || costOf(t) < costOf(best) ? t : best;
            }
            int gain = best == null ? 0 : cost() - costOf(best);
            if (gain > 0) {
                gains++;
                change();
                now.table = best;
            }
            return Math.max(gain, 0);
        }

        int most() {
            int[] total = new int[10];
            int most = 0;
            for (int[] l : now.lessons) {
                most = Math.max(most, Math.max(++total[l[0]], ++total[4 + l[1]]));
            }
            return most;
        }

        int colour(int lesson) {
            isLesson(lesson);
            // by class and colour, by teacher and colour: the lesson that has it, or null
            Integer[][] has = new Integer[10][20];
            int[] colours = new int[now.lessons.size()];
            for (int i = 0; i < colours.length; i++) {
                Integer[] group = has[now.lessons.get(i)[0]];
                Integer[] teacher = has[4 + now.lessons.get(i)[1]];
                int both = 0;
                while (group[both] != null || teacher[both] != null) {
                    both++;
                }
                int p = 0;
                while (group[p] != null) {
                    p++;
                }
                int q = 0;
                while (teacher[q] != null) {
                    q++;
                }
                if (both >= most()) {
                    List<Integer> way = new ArrayList<>();
                    Integer next = teacher[p];
                    boolean atTeacher = true;
                    while (next != null) {
                        way.add(next);
                        atTeacher = !atTeacher;
                        int[] l = now.lessons.get(next);
                        next = atTeacher ? has[4 + l[1]][p] : has[l[0]][q];
                    }
                    for (int w : way) {
                        has[now.lessons.get(w)[0]][colours[w]] = null;
                        has[4 + now.lessons.get(w)[1]][colours[w]] = null;
                    }
                    for (int w : way) {
                        colours[w] = colours[w] == p ? q : p;
                        has[now.lessons.get(w)[0]][colours[w]] = w;
                        has[4 + now.lessons.get(w)[1]][colours[w]] = w;
                    }
                    both = p;
                }
                colours[i] = both;
                group[both] = i;
                teacher[both] = i;
            }
            return colours[lesson];
        }

        boolean setIll(int teacher, int day, boolean isIll) {
            range(teacher, 0, 5);
            range(day, 0, 4);
            change();
            boolean before = now.ill[teacher][day];
            now.ill[teacher][day] = isIll;
            return before;
        }

        /** All lessons that need a substitute at a slot. */
        private List<Integer> needy(int slot) {
            List<Integer> list = new ArrayList<>();
            for (int i = 0; i < now.lessons.size(); i++) {
                if (now.takes(i, slot, now.table) && now.ill[now.lessons.get(i)[1]][slot / 4]) {
                    list.add(i);
                }
            }
            return list;
        }

        /** The best plan of a slot, of all plans: teachers by the places of the lessons, 6 for none. */
        private int[] plan(int slot, List<Integer> needy) {
            List<int[]> plans = new ArrayList<>();
            plans.add(new int[0]);
            for (int lesson : needy) {
                List<int[]> longer = new ArrayList<>();
                for (int[] p : plans) {
                    for (int teacher = 0; teacher <= 6; teacher++) {
                        if (teacher == 6 || canTake(lesson, teacher, slot, p)) {
                            int[] more = Arrays.copyOf(p, p.length + 1);
                            more[p.length] = teacher;
                            longer.add(more);
                        }
                    }
                }
                plans = longer;
            }
            int[] best = null;
            for (int[] p : plans) {
                // plans come in their order, so only one with more lessons is better
                best = best == null || served(p) > served(best) ? p : best;
            }
            return best;
        }

        private boolean canTake(int lesson, int teacher, int slot, int[] ahead) {
            for (int other : ahead) {
                if (other == teacher) {
                    return false;
                }
            }
            return (now.subjects[teacher] & 1 << now.lessons.get(lesson)[2]) != 0 && !now.ill[teacher][slot / 4]
                && lessonAt(true, teacher, slot) == NONE;
        }

        private static int served(int[] plan) {
            int total = 0;
            for (int teacher : plan) {
                total += teacher < 6 ? 1 : 0;
            }
            return total;
        }

        int ill(int day, boolean isLeft) {
            range(day, 0, 4);
            isTable();
            int total = 0;
            for (int slot = day * 4; slot < day * 4 + 4; slot++) {
                List<Integer> needy = needy(slot);
                int left = needy.size() - served(plan(slot, needy));
                lefts += left;
                total += isLeft ? left : needy.size();
            }
            return total;
        }

        int substitute(int lesson, int slot) {
            isLesson(lesson);
            range(slot, 0, 19);
            isTable();
            List<Integer> needy = needy(slot);
            int at = needy.indexOf(lesson);
            int teacher = at < 0 ? 6 : plan(slot, needy)[at];
            return teacher == 6 ? NONE : teacher;
        }

        int takes(int teacher) {
            range(teacher, 0, 5);
            isTable();
            int total = 0;
            for (int slot = 0; slot < 20; slot++) {
                for (int other : plan(slot, needy(slot))) {
                    total += other == teacher ? 1 : 0;
                }
            }
            return total;
        }

        boolean setApart(int one, int other, boolean areApart) {
            range(one, 0, 7);
            range(other, 0, 7);
            if (one == other) {
                throw new IllegalArgumentException();
            }
            change();
            boolean before = now.apart[one][other];
            now.apart[one][other] = areApart;
            now.apart[other][one] = areApart;
            return before;
        }

        private boolean exams(int[] days, int exam, int bound) {
            if (exam == 8) {
                return true;
            }
            for (int day = 0; day < bound; day++) {
                boolean isFree = true;
                for (int other = 0; other < exam; other++) {
                    isFree &= !now.apart[exam][other] || days[other] != day;
                }
                days[exam] = day;
                if (isFree && exams(days, exam + 1, bound)) {
                    return true;
                }
            }
            return false;
        }

        int daysNeeded() {
            for (int bound = 1; bound < 8; bound++) {
                if (exams(new int[8], 0, bound)) {
                    return bound;
                }
            }
            return 8;
        }

        int examDay(int exam) {
            range(exam, 0, 7);
            int[] days = new int[8];
            exams(days, 0, daysNeeded());
            return days[exam];
        }

        int group() {
            int best = 0;
            for (int set = 255; set > 0; set--) {
                boolean isGroup = true;
                for (int i = 0; i < 8; i++) {
                    for (int j = 0; j < i; j++) {
                        isGroup &= (set & 1 << i) == 0 || (set & 1 << j) == 0 || now.apart[i][j];
                    }
                }
                if (isGroup && Integer.bitCount(set) >= Integer.bitCount(best)) {
                    best = set;
                }
            }
            return best;
        }

        int setBells(int[] b) {
            range(b[0], 0, 4);
            range(b[1], 420, 600);
            range(b[2], 30, 60);
            range(b[3], 0, 30);
            bells[b[0]] = new int[] {b[1], b[2], b[3]};
            return bell(b[0] * 4 + 3, true);
        }

        int bell(int slot, boolean isEnd) {
            range(slot, 0, 19);
            int[] b = bells[slot / 4];
            int minute = b[0];
            for (int hour = 0; hour < slot % 4; hour++) {
                minute += b[1] + b[2];
            }
            return isEnd ? minute + b[1] : minute;
        }

        int slotAt(int day, int minute) {
            range(day, 0, 4);
            range(minute, 0, 1439);
            for (int slot = day * 4; slot < day * 4 + 4; slot++) {
                for (int at = bell(slot, false); at < bell(slot, true); at++) {
                    if (at == minute) {
                        return slot;
                    }
                }
            }
            return NONE;
        }

        static int number(LocalDate d) {
            return d.getYear() * 10000 + d.getMonthValue() * 100 + d.getDayOfMonth();
        }

        private static LocalDate date(int number) {
            range(number, 20000101, 20991231);
            try {
                return LocalDate.of(number / 10000, number / 100 % 100, number % 100);
            } catch (java.time.DateTimeException e) {
                throw new IllegalArgumentException();
            }
        }

        int laterOrSame(int number, int days) {
            try {
                return number(date(number).plusDays(days));
            } catch (IllegalArgumentException e) {
                return number;
            }
        }

        int setYear(int number) {
            LocalDate d = date(number);
            if (d.getDayOfWeek().getValue() != 1) {
                throw new IllegalArgumentException();
            }
            int before = number(begin);
            begin = d;
            holidays.clear();
            return before;
        }

        int holiday(int from, int to) {
            LocalDate[] pair = {date(from), date(to)};
            if (pair[1].isBefore(pair[0])) {
                throw new IllegalArgumentException();
            }
            if (holidays.size() == 10) {
                throw new IllegalStateException();
            }
            holidays.add(pair);
            return holidays.size();
        }

        private boolean isHoliday(LocalDate d) {
            for (LocalDate[] pair : holidays) {
                if (!d.isBefore(pair[0]) && !d.isAfter(pair[1])) {
                    return true;
                }
            }
            return false;
        }

        List<LocalDate> schoolDates() {
            List<LocalDate> list = new ArrayList<>();
            for (LocalDate d = begin; d.isBefore(begin.plusWeeks(40)); d = d.plusDays(1)) {
                if (d.getDayOfWeek().getValue() <= 5 && !isHoliday(d)) {
                    list.add(d);
                }
            }
            return list;
        }

        int dateOf(int number) {
            List<LocalDate> list = schoolDates();
            if (number < 0 || number >= list.size()) {
                throw new IndexOutOfBoundsException();
            }
            return number(list.get(number));
        }

        int numberOf(int number) {
            return schoolDates().indexOf(date(number));
        }

        int nextDay(int number) {
            LocalDate d = date(number);
            for (LocalDate other : schoolDates()) {
                if (other.isAfter(d)) {
                    return number(other);
                }
            }
            return NONE;
        }

        int weekOf(int number, int what) {
            LocalDate d = date(number);
            range(what, 0, 2);
            long days = ChronoUnit.DAYS.between(begin, d);
            if (days < 0 || days >= 280) {
                return NONE;
            }
            int[] counts = new int[40];
            for (LocalDate other : schoolDates()) {
                counts[(int) (ChronoUnit.DAYS.between(begin, other) / 7)]++;
            }
            int week = (int) (days / 7);
            int letter = NONE;
            int next = 0;
            for (int w = 0; w <= week; w++) {
                letter = counts[w] > 0 ? next : NONE;
                next = counts[w] > 0 ? 1 - next : next;
            }
            return what == 0 ? week : what == 1 ? letter : counts[week];
        }

        int dayOfWeek(int number) {
            return date(number).getDayOfWeek().getValue() - 1;
        }

        int later(int number, int days) {
            LocalDate d = date(number);
            range(days, -1000, 1000);
            return number(d.plusDays(days));
        }

        int lostLessons(int group) {
            range(group, 0, 3);
            isTable();
            int total = 0;
            for (LocalDate d = begin; d.isBefore(begin.plusWeeks(40)); d = d.plusDays(1)) {
                for (int i = 0; i < now.lessons.size(); i++) {
                    total += isHoliday(d) && now.lessons.get(i)[0] == group
                        && now.table[i] / 4 == d.getDayOfWeek().getValue() - 1 ? 1 : 0;
                }
            }
            return total;
        }

        int append(int[] parameters) {
            StringBuilder more = new StringBuilder();
            for (int p : parameters) {
                for (int i = 3; i >= 0; i--) {
                    int b = p >>> 8 * i & 255;
                    more.append(b == 0 ? "" : String.valueOf((char) b));
                }
            }
            if (tape.length() + more.length() > 100) {
                throw new IllegalStateException();
            }
            tape.append(more);
            return tape.length();
        }

        int clearTape() {
            int before = tape.length();
            tape.setLength(0);
            return before;
        }

        int read() {
            String text = tape.toString();
            clearTape();
            int[] t = new int[now.lessons.size()];
            Arrays.fill(t, -1);
            errorAt = NONE;
            int at = 0;
            boolean isOpen = true;
            while (isOpen) {
                at = skip(text, at);
                if (at == text.length() && !Arrays.stream(t).anyMatch(slot -> slot < 0)) {
                    break;
                }
                int lesson = sign(text, at, "012345678".substring(0, t.length));
                if (lesson >= 0 && t[lesson] >= 0) {
                    lesson = -1;
                }
                int day = lesson < 0 ? -1 : sign(text, at = skip(text, at + 1), "mtwhf");
                String hours = lesson >= 0 && now.lessons.get(lesson)[4] == 1 ? "012" : "0123";
                int hour = day < 0 ? -1 : sign(text, at = skip(text, at + 1), hours);
                int end = hour < 0 ? -1 : sign(text, at = skip(text, at + 1), ";");
                if (end < 0) {
                    errorAt = at;
                    throw new IllegalArgumentException();
                }
                t[lesson] = 4 * day + hour;
                at++;
            }
            if (!now.right(t, now.hard())) {
                throw new IllegalStateException();
            }
            change();
            now.table = t;
            return cost();
        }

        private static int skip(String text, int from) {
            int at = from;
            while (at < text.length() && (text.charAt(at) == 32 || text.charAt(at) == 10)) {
                at++;
            }
            return at;
        }

        private static int sign(String text, int at, String signs) {
            return at < text.length() ? signs.indexOf(text.charAt(at)) : -1;
        }

        int write() {
            isTable();
            StringBuilder text = new StringBuilder();
            for (int i = 0; i < now.table.length; i++) {
                text.append(i).append("mtwhf".charAt(now.table[i] / 4)).append(now.table[i] % 4).append(';');
            }
            written = text.toString();
            return written.length();
        }

        char writtenAt(int index) {
            if (index < 0 || index >= written.length()) {
                throw new IndexOutOfBoundsException();
            }
            return written.charAt(index);
        }

        int undo() {
            if (past.isEmpty()) {
                return NONE;
            }
            now = past.removeLast();
            proof = null;
            return past.size();
        }

        int checksum() {
            int sum = now.table == null ? 0 : 17;
            for (int i = 0; now.table != null && i < now.table.length; i++) {
                sum = 31 * sum + now.table[i];
            }
            return sum;
        }

        double meanSlot() {
            isTable();
            return now.table.length == 0 ? 0.0 : (double) Arrays.stream(now.table).sum() / (double) now.table.length;
        }

        float taken() {
            isTable();
            int sum = 0;
            for (int[] l : now.lessons) {
                sum += l[4] == 1 ? 2 : 1;
            }
            return sum / 80.0f;
        }
    }
}
