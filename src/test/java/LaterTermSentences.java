import java.time.LocalDate;
import java.util.ArrayList;
import java.util.Arrays;
import java.util.List;
import java.util.concurrent.Callable;

/** The terms 5 to 11 of the document, sentence by sentence: illness, exams, bells, the year, texts, undo, exceptions. */
public final class LaterTermSentences {
    private static final int NONE = Schoolhours.NONE;
    private static final Class<?> IAE = Sentences.IAE;
    private static final Class<?> ISE = Sentences.ISE;
    private static final Class<?> IOOBE = Sentences.IOOBE;

    public static void main(String[] args) {
        illness();
        exams();
        bells();
        theYear();
        weeks();
        texts();
        errorsOfTexts();
        changes();
        exceptions();
        Sentences.end();
    }

    private static void sentence(String words, Runnable test) {
        Sentences.sentence(words, test);
    }

    private static void is(Object due, Callable<Object> call) {
        Sentences.is(due, call);
    }

    // ---- Term 5.

    private static void illness() {
        Sentences.part("Term 5");
        sentence("Teachers can be ill on days, of each week.", () -> {
            for (int place = 0; place < 30; place++) {
                int teacher = place / 5;
                int day = place % 5;
                Schoolhours x = Schools.school("0T0- 0T1- 0T2- 0T3- 0T4-".replace("T", "" + teacher));
                Schools.put(x, 0, 4, 8, 12, 16);
                is(false, () -> x.setIll(teacher, day, true));
                for (int other = 0; other < 5; other++) {
                    int asked = other;
                    is(asked == day ? 1 : 0, () -> x.ill(asked, false));
                }
                is(true, () -> x.setIll(teacher, day, false));
                is(0, () -> x.ill(day, false));
            }
        });
        sentence("At each slot of the present table, the lessons whose teacher is ill on its day need a substitute: a"
            + " teacher who can teach its subject, is not ill on this day, and has no lesson at this slot; at one slot a"
            + " teacher takes one lesson.", LaterTermSentences::substitutes);
        sentence("(A double lesson needs one at each of its slots, by itself.)", () -> {
            Schoolhours x = Schools.school("000-/2 111-");
            Schools.put(x, 8, 8);
            x.setIll(0, 2, true);
            is(2, () -> x.ill(2, false));
            is("2 -1", () -> Schools.substitutes(x, 8));
            is("1 -1", () -> Schools.substitutes(x, 9));
            is(1, () -> x.takes(1));
            is(1, () -> x.takes(2));
        });
        sentence("Of all plans for a slot those count that give a substitute to the most lessons; of these the one in"
            + " which the lesson with the least number has the least teacher (none is behind all teachers), then the next"
            + " lesson, and so on.", () -> {
                for (int sets = 0; sets < 1 << 9; sets++) {
                    planned("030- 141- 252-", 3, 3, sets);
                }
                for (int sets = 0; sets < 1 << 8; sets++) {
                    planned("020- 131- 242- 353-", 2, 4, sets);
                }
                for (int sets = 0; sets < 1 << 8; sets++) {
                    planned("040- 151-", 4, 2, sets);
                }
            });
    }

    private static void substitutes() {
        Schoolhours x = Schools.school("000- 111- 222-");
        Schools.put(x, 0, 0, 1);
        is("-1 -1 -1", () -> Schools.substitutes(x, 0));
        x.setIll(0, 0, true);
        // the teacher 1 has a lesson at this slot; 2 has one at the next slot only
        is("2 -1 -1", () -> Schools.substitutes(x, 0));
        is("-1 -1 -1", () -> Schools.substitutes(x, 1));
        // ill on this day, or on another one
        x.setIll(2, 0, true);
        is("3 -1 -1", () -> Schools.substitutes(x, 0));
        is("-1 -1 1", () -> Schools.substitutes(x, 1));
        x.setIll(3, 1, true);
        x.setIll(3, 4, true);
        is("3 -1 -1", () -> Schools.substitutes(x, 0));
        // cannot teach the subject 0, or can teach it alone
        x.setSubjects(3, 0b111110);
        x.setSubjects(4, 0b000001);
        Schools.put(x, 0, 0, 1);
        is("4 -1 -1", () -> Schools.substitutes(x, 0));
        // a teacher takes one lesson at one slot
        x.setIll(1, 0, true);
        is("4 3 -1", () -> Schools.substitutes(x, 0));
        x.setIll(3, 0, true);
        is("4 5 -1", () -> Schools.substitutes(x, 0));
        x.setIll(4, 0, true);
        is("5 -1 -1", () -> Schools.substitutes(x, 0));
        x.setIll(5, 0, true);
        is("-1 -1 -1", () -> Schools.substitutes(x, 0));
        is(3, () -> x.ill(0, false));
        is(3, () -> x.ill(0, true));
        // nobody helps the day behind, but nobody needs it there
        is(0, () -> x.ill(1, false));
    }

    /** Lessons at one slot, of ill teachers with one subject each; of the others each can teach a set of these. */
    private static void planned(String lessons, int free, int n, int sets) {
        Schoolhours x = new Schoolhours();
        int[] able = new int[free];
        for (int teacher = 0; teacher < free; teacher++) {
            able[teacher] = sets >> teacher * n & (1 << n) - 1;
            x.setSubjects(teacher, able[teacher]);
        }
        for (int teacher = free; teacher < 6; teacher++) {
            x.setIll(teacher, 4, true);
        }
        Schools.add(x, lessons);
        int[] slots = new int[n];
        Arrays.fill(slots, 19);
        Schools.put(x, slots);
        is(bestPlan(able, free, n), () -> Schools.substitutes(x, 19));
    }

    private static String bestPlan(int[] able, int free, int n) {
        int total = (int) Math.pow(free + 1, n);
        int[] best = new int[n];
        int most = -1;
        // the plans in their order: lesson 0 first, none behind all teachers
        for (int number = 0; number < total; number++) {
            int[] plan = new int[n];
            int taken = 0;
            int given = 0;
            boolean isGood = true;
            for (int i = n - 1, rest = number; i >= 0; i--, rest /= free + 1) {
                plan[i] = rest % (free + 1);
                if (plan[i] < free) {
                    isGood &= (taken >> plan[i] & 1) == 0 && (able[plan[i]] >> i & 1) == 1;
                    taken |= 1 << plan[i];
                    given++;
                }
            }
            if (isGood && given > most) {
                most = given;
                best = plan;
            }
        }
        StringBuilder text = new StringBuilder();
        for (int teacher : best) {
            text.append(text.length() == 0 ? "" : " ").append(teacher == free ? NONE : teacher);
        }
        return text.toString();
    }

    // ---- Term 6.

    private static long seed = 4711;

    private static int below(int bound) {
        seed = seed * 6364136223846793005L + 1442695040888963407L;
        return (int) ((seed >>> 33) % bound);
    }

    private static void exams() {
        Sentences.part("Term 6");
        sentence("There are the exams 0 to 7; two of them can be apart.", () -> {
            for (int place = 0; place < 64; place++) {
                int one = place / 8;
                int other = place % 8;
                Schoolhours x = new Schoolhours();
                is(one == other ? IAE : false, () -> x.setApart(one, other, true));
                is(one == other ? 1 : 2, x::daysNeeded);
                is(one == other ? 1 : 1 << one | 1 << other, x::group);
            }
            Sentences.beyond(IAE, 0, 7, (x, one) -> x.setApart(one, 0, true));
            Sentences.beyond(IAE, 0, 7, (x, other) -> x.setApart(0, other, true));
            Sentences.beyond(IAE, 0, 7, (x, exam) -> x.examDay(exam));
        });
        boolean[][][] many = someApart();
        sentence("The days needed are the fewest days, on each of which no two exams that are apart are held.", () -> {
            for (boolean[][] apart : many) {
                is(fewestDays(apart), () -> told(apart).daysNeeded());
            }
        });
        sentence("The plan gives each exam a day, from 0 on, below the days needed: of all plans that keep what is apart"
            + " apart the one in which exam 0 has the least day, then exam 1, and so on.", () -> {
                for (boolean[][] apart : many) {
                    int[] plan = new int[8];
                    fill(apart, plan, 0, fewestDays(apart));
                    StringBuilder due = new StringBuilder();
                    for (int day : plan) {
                        due.append(day);
                    }
                    is(due.toString(), () -> Schools.examDays(told(apart)));
                }
            });
        sentence("The greatest group is the set of the most exams of which each two are apart; of several the one with"
            + " the least sum as a set.", () -> {
                for (boolean[][] apart : many) {
                    is(greatestGroup(apart), () -> told(apart).group());
                }
            });
    }

    private static boolean[][][] someApart() {
        boolean[][][] many = new boolean[200][8][8];
        for (int i = 0; i < many.length; i++) {
            int part = i % 11;
            for (int one = 0; one < 8; one++) {
                for (int other = 0; other < one; other++) {
                    many[i][one][other] = below(10) < part;
                    many[i][other][one] = many[i][one][other];
                }
            }
        }
        return many;
    }

    private static Schoolhours told(boolean[][] apart) {
        Schoolhours x = new Schoolhours();
        for (int one = 0; one < 8; one++) {
            for (int other = 0; other < one; other++) {
                if (apart[one][other]) {
                    x.setApart(one % 2 == 0 ? one : other, one % 2 == 0 ? other : one, true);
                }
            }
        }
        return x;
    }

    private static int fewestDays(boolean[][] apart) {
        int days = 1;
        while (!fill(apart, new int[8], 0, days)) {
            days++;
        }
        return days;
    }

    /** The first plan with so many days, all days tried for each exam. */
    private static boolean fill(boolean[][] apart, int[] plan, int exam, int days) {
        for (int day = 0; day < days && exam < 8; day++) {
            boolean isFree = true;
            for (int other = 0; other < exam; other++) {
                isFree &= !apart[exam][other] || plan[other] != day;
            }
            plan[exam] = day;
            if (isFree && fill(apart, plan, exam + 1, days)) {
                return true;
            }
        }
        return exam == 8;
    }

    private static int greatestGroup(boolean[][] apart) {
        int greatest = 0;
        for (int set = 255; set > 0; set--) {
            boolean isGroup = true;
            for (int place = 0; place < 64; place++) {
                int one = place / 8;
                int other = place % 8;
                isGroup &= one == other || (set >> one & set >> other & 1) == 0 || apart[one][other];
            }
            greatest = isGroup && Integer.bitCount(set) >= Integer.bitCount(greatest) ? set : greatest;
        }
        return greatest;
    }

    // ---- Term 7.

    private static void bells() {
        Sentences.part("Term 7");
        sentence("On each day the first hour begins at a minute of the day (420 to 600, 480 at first), the hours last so"
            + " many minutes (30 to 60, 45 at first), and there is a break between two hours (0 to 30, 10 at first).",
            () -> {
                Schoolhours x = new Schoolhours();
                for (int day = 0; day < 5; day++) {
                    bellsOfDay(x, day, 480, 45, 10);
                }
                for (int begin = 420; begin <= 600; begin++) {
                    bellsTold(begin % 5, begin, 30 + begin % 31, begin % 31);
                }
                for (int length = 30; length <= 60; length++) {
                    bellsTold(length % 5, 600 - length, length, 60 - length);
                }
                for (int pause = 0; pause <= 30; pause++) {
                    bellsTold(pause % 5, 600, 30, pause);
                    bellsTold(pause % 5, 420, 60, pause);
                }
                Sentences.beyond(IAE, 420, 600, (y, begin) -> y.setBells(0, begin, 45, 10));
                Sentences.beyond(IAE, 30, 60, (y, length) -> y.setBells(0, 480, length, 10));
                Sentences.beyond(IAE, 0, 30, (y, pause) -> y.setBells(0, 480, 45, pause));
            });
    }

    private static void bellsTold(int day, int begin, int length, int pause) {
        Schoolhours x = new Schoolhours();
        is(begin + 4 * length + 3 * pause, () -> x.setBells(day, begin, length, pause));
        for (int other = 0; other < 5; other++) {
            if (other == day) {
                bellsOfDay(x, day, begin, length, pause);
            } else {
                bellsOfDay(x, other, 480, 45, 10);
            }
        }
    }

    private static void bellsOfDay(Schoolhours x, int day, int begin, int length, int pause) {
        for (int hour = 0; hour < 4; hour++) {
            int slot = 4 * day + hour;
            int minute = begin + hour * (length + pause);
            is(minute, () -> x.bell(slot, false));
            is(minute + length, () -> x.bell(slot, true));
            is(slot, () -> x.slotAt(day, minute));
            is(slot, () -> x.slotAt(day, minute + length - 1));
            is(pause == 0 && slot % 4 < 3 ? slot + 1 : NONE, () -> x.slotAt(day, minute + length));
        }
    }

    // ---- Term 8.

    private static int number(LocalDate date) {
        return date.getYear() * 10000 + date.getMonthValue() * 100 + date.getDayOfMonth();
    }

    private static void theYear() {
        Sentences.part("Term 8");
        sentence("The year begins on a date, which is a Monday (2026-09-07 at first), and has 40 weeks.", () -> {
            Schoolhours x = new Schoolhours();
            is(20260907, () -> x.dateOf(0));
            is(NONE, () -> x.weekOf(20260906, 0));
            is(0, () -> x.weekOf(20260907, 0));
            is(39, () -> x.weekOf(20270613, 0));
            is(NONE, () -> x.weekOf(20270614, 0));
            is(20260907, () -> x.setYear(20240101));
            for (int days = -8; days <= 288; days++) {
                int date = number(LocalDate.of(2024, 1, 1).plusDays(days));
                int due = days < 0 || days >= 280 ? NONE : days / 7;
                Schoolhours y = new Schoolhours();
                y.setYear(20240101);
                is(due, () -> y.weekOf(date, 0));
                is(days % 7 == 0 ? 20240101 : IAE, () -> y.setYear(date));
            }
        });
        sentence("A school day is a date from Monday to Friday within these weeks that is no holiday.", () -> {
            Schoolhours x = new Schoolhours();
            x.holiday(20260909, 20260909);
            x.holiday(20270608, 20270609);
            is(197, x::schoolDays);
            int due = 0;
            for (int days = -9; days < 290; days++) {
                LocalDate date = LocalDate.of(2026, 9, 7).plusDays(days);
                boolean isOff = days == 2 || days == 274 || days == 275;
                boolean isDay = days >= 0 && days < 280 && date.getDayOfWeek().getValue() <= 5 && !isOff;
                int number = due;
                is(isDay ? number : NONE, () -> x.numberOf(number(date)));
                due += isDay ? 1 : 0;
            }
        });
        sentence("Holidays are told from a date to a date (both with it); at most 10 of them.", () -> {
            Schoolhours x = new Schoolhours();
            is(1, () -> x.holiday(20260908, 20260910));
            is(0, () -> x.numberOf(20260907));
            is(NONE, () -> x.numberOf(20260908));
            is(NONE, () -> x.numberOf(20260909));
            is(NONE, () -> x.numberOf(20260910));
            is(1, () -> x.numberOf(20260911));
            for (int i = 2; i <= 10; i++) {
                int due = i;
                is(due, () -> x.holiday(20260908, 20260908));
            }
            is(ISE, () -> x.holiday(20260907, 20260907));
            is(197, x::schoolDays);
            Sentences.refused(ISE, Schools::full, y -> y.holiday(20270906, 20270906));
        });
        sentence("School days are numbered from 0, in their order.", () -> {
            Schoolhours x = new Schoolhours();
            x.holiday(20260907, 20260907);
            x.holiday(20261224, 20270103);
            LocalDate date = LocalDate.of(2026, 9, 8);
            int total = x.schoolDays();
            for (int i = 0; i < total; i++) {
                int number = i;
                int due = number(date);
                is(due, () -> x.dateOf(number));
                LocalDate last = date;
                is(number, () -> x.numberOf(number(last)));
                do {
                    date = date.plusDays(1);
                } while (date.getDayOfWeek().getValue() > 5
                    || date.isAfter(LocalDate.of(2026, 12, 23)) && date.isBefore(LocalDate.of(2027, 1, 4)));
            }
            is(IOOBE, () -> x.dateOf(-1));
            is(IOOBE, () -> x.dateOf(x.schoolDays()));
        });
    }

    private static void weeks() {
        sentence("A week with at least one school day is a school week; these are A and B by turns, beginning with A.",
            () -> {
                letters("ABABABAB", 0, 0, 0, 0);
                letters("-ABABABA", 20260907, 20260911, 0, 0);
                letters("A-BABABA", 20260914, 20260920, 0, 0);
                letters("ABABABAB", 20260914, 20260917, 0, 0);
                letters("ABABABAB", 20260915, 20260918, 0, 0);
                letters("A-BA--BA", 20260914, 20260918, 20261005, 20261016);
                letters("--------", 20000101, 20991231, 0, 0);
                letters("-------A", 20260907, 20261025, 0, 0);
                letters("A-------", 20260912, 20991231, 0, 0);
                Schoolhours x = new Schoolhours();
                is(1, () -> x.weekOf(20270613, 1));
            });
        sentence("The lessons that are lost of a class are, for each date from Monday to Friday within the year that is a"
            + " holiday, its lessons of the present table that begin on this day of the week.", () -> {
                Schoolhours x = Schools.school("000-/2 011- 022- 100- 301-");
                Schools.put(x, 0, 2, 19, 4, 7);
                lost(x, 0, 0, 0, 0, 0);
                lost(x, 20260907, 2, 0, 0, 0);
                lost(x, 20260908, 2, 1, 0, 1);
                lost(x, 20260909, 2, 1, 0, 1);
                // Saturday, Sunday, and the days next beyond the year
                lost(x, 20260912, 2, 1, 0, 1);
                lost(x, 20260913, 2, 1, 0, 1);
                lost(x, 20260904, 2, 1, 0, 1);
                lost(x, 20270614, 2, 1, 0, 1);
                lost(x, 20270611, 3, 1, 0, 1);
                // a day that is told twice is lost once
                lost(x, 20260907, 3, 1, 0, 1);
                is(10, () -> x.holiday(20000101, 20991231));
                is("120 40 0 40", () -> x.lostLessons(0) + " " + x.lostLessons(1) + " " + x.lostLessons(2) + " "
                    + x.lostLessons(3));
                x.move(1, 5);
                is(120, () -> x.lostLessons(0));
                x.setYear(20260907);
                is(0, () -> x.lostLessons(0));
            });
        sentence("Dates are told as numbers: 10000 times the year plus 100 times the month plus the day.", () -> {
            LocalDate date = LocalDate.of(2000, 1, 1);
            for (int days = 0; days < 36525; days++) {
                Schoolhours x = new Schoolhours();
                int number = number(date);
                int next = number(date.plusDays(1));
                int due = date.getDayOfWeek().getValue() - 1;
                is(due, () -> x.dayOfWeek(number));
                is(next, () -> x.later(number, 1));
                date = date.plusDays(1);
            }
            is(2100, date::getYear);
            for (int number : Schools.NO_DATES) {
                Sentences.refused(IAE, Schools::some, y -> y.dayOfWeek(number));
            }
        });
    }

    /** The letters of the first eight weeks with two holidays (0 for none). */
    private static void letters(String due, int from, int to, int fromOther, int toOther) {
        Schoolhours x = new Schoolhours();
        if (from != 0) {
            x.holiday(from, to);
        }
        if (fromOther != 0) {
            x.holiday(fromOther, toOther);
        }
        for (int week = 0; week < 8; week++) {
            char letter = due.charAt(week);
            for (int day = 0; day < 7; day++) {
                int date = number(LocalDate.of(2026, 9, 7).plusDays(7 * week + day));
                is(letter == '-' ? NONE : letter - 'A', () -> x.weekOf(date, 1));
                is(letter == '-', () -> x.weekOf(date, 2) == 0);
            }
        }
    }

    private static void lost(Schoolhours x, int holiday, int... due) {
        if (holiday != 0) {
            x.holiday(holiday, holiday);
        }
        for (int i = 0; i < due.length; i++) {
            int group = i;
            is(due[group], () -> x.lostLessons(group));
        }
    }

    // ---- Term 9.

    private static final String TWO = "000-/2 111-";

    private static void texts() {
        Sentences.part("Term 9");
        sentence("A text on the tape tells a table.", () -> {
            Schoolhours x = Schools.school("000- 111- 222-");
            Schools.put(x, "0m0;1w2;2f3;");
            is("0 10 19", () -> Schools.slots(x));
            Schools.put(x, "2m0;0f3;1h1;");
            is("19 13 0", () -> Schools.slots(x));
        });
        sentence("Its grammar: text = { place }, place = LESSON DAY HOUR \";\" .", () -> {
            is(0, () -> Schools.put(new Schoolhours(), ""));
            is(0, () -> Schools.put(Schools.school("000-"), "0m0;"));
            is(0, () -> Schools.put(Schools.school("000- 111-"), "0m0;1m0;"));
            is(0, () -> Schools.put(Schools.school("000- 111- 222- 333- 000- 111- 222- 333- 044-"),
                "0m0;1m0;2m0;3m0;4f0;5f0;6f0;7f0;8w0;"));
            errorAt(0, TWO, ";");
            errorAt(4, TWO, "0m0;;1m0;");
            errorAt(3, TWO, "0m01m0;");
            errorAt(1, TWO, "00m;1m0;");
            errorAt(0, TWO, "m00;1m0;");
        });
        sentence("LESSON is a digit, DAY one of the letters m t w h f (Monday to Friday), HOUR a digit from 0 to 3.",
            () -> {
                for (int slot = 0; slot < 20; slot++) {
                    String text = "0" + "mtwhf".charAt(slot / 4) + "0123".charAt(slot % 4) + ";";
                    Schoolhours x = Schools.school("000-");
                    Schools.put(x, text);
                    is("" + slot, () -> Schools.slots(x));
                }
                for (int sign = 1; sign < 256; sign++) {
                    char c = (char) sign;
                    errorAt(c == ' ' || c == '\n' ? 1 : c == '0' ? NONE : 0, "000-", c + "m0;");
                    errorAt(c == ' ' || c == '\n' ? 2 : "mtwhf".indexOf(c) >= 0 ? NONE : 1, "000-", "0" + c + "0;");
                    errorAt(c == ' ' || c == '\n' ? 3 : c >= '0' && c <= '3' ? NONE : 2, "000-", "0m" + c + ";");
                }
            });
        sentence("The bytes 32 and 10 may stand ahead of, between and behind these four signs.", () -> {
            String text = "0m0;1t2;";
            for (int at = 0; at <= text.length(); at++) {
                for (String blank : new String[] {" ", "\n", "  ", "\n \n", " ".repeat(92), "\n".repeat(92)}) {
                    Schoolhours x = Schools.school(TWO);
                    String wide = text.substring(0, at) + blank + text.substring(at);
                    is(0, () -> Schools.put(x, wide));
                    is("0 6", () -> Schools.slots(x));
                }
                for (char c : new char[] {9, 11, 12, 13, 31, 33, 160, 255, 1}) {
                    errorAt(at, TWO, text.substring(0, at) + c + text.substring(at));
                }
            }
            is(0, () -> Schools.put(new Schoolhours(), " \n "));
        });
        sentence("Each lesson must stand just once.", () -> {
            errorAt(4, TWO, "0m0;0t0;");
            errorAt(8, TWO, "0m0;1m0;1t0;");
            errorAt(4, TWO, "1m0;1m0;");
            errorAt(4, TWO, "0m0;");
            errorAt(4, TWO, "1m0;");
            errorAt(0, TWO, "");
            errorAt(NONE, TWO, "1m0;0m0;");
        });
    }

    private static void errorAt(int due, String lessons, String text) {
        Schoolhours x = Schools.school(lessons);
        is(due == NONE ? 0 : IAE, () -> Schools.put(x, text));
        is(due, x::errorPosition);
        is(0, x::clearTape);
        is(due == NONE, () -> x.checksum() != 0);
    }

    private static void errorsOfTexts() {
        sentence("The first error of a text is that of the first sign that does not fit: another byte than the one that"
            + " can stand there, a LESSON that there is not, or that stood ahead already, or an HOUR 3 of a double"
            + " lesson; or the end of the text, if it ends within a place, or a lesson is lacking.", () -> {
                otherBytes();
                for (int lesson = 0; lesson <= 9; lesson++) {
                    errorAt(lesson == 1 ? NONE : 4, TWO, "0m0;" + lesson + "m0;");
                    errorAt(lesson == 0 ? NONE : 0, "000-", lesson + "m0;");
                    errorAt(0, "", lesson + "m0;");
                }
                for (int slot = 0; slot < 20; slot++) {
                    String place = "mtwhf".charAt(slot / 4) + "" + slot % 4 + ";";
                    errorAt(slot % 4 == 3 ? 2 : NONE, TWO, "0" + place + "1f3;");
                    errorAt(NONE, TWO, "0m0;1" + place);
                }
                errorAt(3, "000- 111-", "0m0");
                // the first of several errors
                errorAt(2, TWO, "0m3,0x");
                errorAt(3, TWO, "0m0,0x");
                errorAt(4, TWO, "0m0;0x3");
                // a table that is not right is no error of its text
                errorAtWrongTable("000- 011-", "0m0;1m0;");
                errorAtWrongTable("000- 010-", "0m0;1m1;");
            });
        sentence("The error position is the index of this byte, or the length of the text.", () -> {
            String text = " 0m0;\n1t2; ";
            for (int length = 0; length < 10; length++) {
                errorAt(length, TWO, text.substring(0, length));
            }
            errorAt(NONE, TWO, text.substring(0, 10));
            errorAt(NONE, TWO, text);
            errorAt(8, TWO, "0m0;    ");
            errorAt(100, TWO, " ".repeat(100));
            errorAt(100, TWO, "0m0;" + "\n".repeat(96));
            errorAt(99, TWO, "0m0;1m0;" + "\n".repeat(91) + "x");
            errorAt(0, TWO, "x" + "0m0;".repeat(24));
        });
    }

    private static void errorAtWrongTable(String lessons, String text) {
        Schoolhours x = Schools.school(lessons);
        is(ISE, () -> Schools.put(x, text));
        is(NONE, x::errorPosition);
        is(0, x::clearTape);
    }

    /** Each byte at each place of a text that fits. */
    private static void otherBytes() {
        String text = "0m0;1t2;";
        String[] fits = {"0", "mtwhf", "012", ";", "1", "mtwhf", "0123", ";"};
        for (int at = 0; at < 8; at++) {
            for (int sign = 1; sign < 256; sign++) {
                int due = fits[at].indexOf(sign) >= 0 ? NONE : at;
                if (sign == ' ' || sign == '\n') {
                    // then the sign behind it does not fit, or the end
                    due = at + 1;
                }
                if (at == 0 && sign == '1') {
                    due = 4;
                }
                errorAt(due, TWO, text.substring(0, at) + (char) sign + text.substring(at + 1));
            }
        }
    }

    // ---- Term 10.

    private static List<Sentences.Call> changesOfSome() {
        List<Sentences.Call> calls = new ArrayList<>();
        calls.add(x -> x.lesson(3, 5, 5, 2, true));
        calls.add(x -> x.dropLesson(0));
        calls.add(x -> x.dropLesson(4));
        calls.add(x -> x.wish(0, 5, 19, 9));
        calls.add(x -> x.dropWish(1));
        calls.add(x -> x.setRooms(0, 1));
        calls.add(x -> x.setRooms(0, 3));
        calls.add(x -> x.setSubjects(5, 0));
        calls.add(x -> x.setSubjects(5, 63));
        calls.add(x -> x.setIll(1, 1, true));
        calls.add(x -> x.setIll(0, 0, true));
        calls.add(x -> x.setIll(0, 0, false));
        calls.add(x -> x.setIll(3, 3, false));
        calls.add(x -> x.setApart(0, 1, true));
        calls.add(x -> x.setApart(2, 4, true));
        calls.add(x -> x.setApart(4, 2, false));
        calls.add(x -> x.setApart(5, 6, false));
        calls.add(Schoolhours::find);
        calls.add(Schoolhours::improve);
        calls.add(x -> x.move(4, 4));
        calls.add(x -> x.move(4, x.slotOf(4)));
        return calls;
    }

    private static void changes() {
        Sentences.part("Term 10");
        sentence("A change is each call that adds or drops a lesson or a wish, sets rooms, subjects, an illness, or two"
            + " exams apart, or makes another table the present one (by find(), improve(), read() or move()), also if"
            + " nothing is different.", () -> {
                int before = Schools.some().undo();
                for (Sentences.Call call : changesOfSome()) {
                    Schoolhours x = Schools.some();
                    is(true, () -> call.on(x) != null);
                    is(before + 1, x::undo);
                }
                Schoolhours read = Schools.some();
                read.read();
                is(before + 1, read::undo);
                Schoolhours same = Schools.some();
                same.find();
                same.find();
                is(before + 2, same::undo);
                noChanges(before);
            });
        sentence("The latest 20 changes can be undone, the latest first (one that is older than these cannot be undone"
            + " any more, also when later ones were undone): all of this, with the present table, is then as it was ahead"
            + " of the change.", () -> {
                for (Sentences.Call call : changesOfSome()) {
                    for (int look = 0; look < Seen.LOOKS; look++) {
                        Schoolhours x = Schools.some();
                        Schools.answer(() -> call.on(x));
                        x.undo();
                        int number = look;
                        is(Seen.look(look, Schools.some()), () -> Seen.look(number, x));
                    }
                }
                latestTwenty();
            });
        sentence("Bells, the year and holidays are not undone.", () -> {
            Schoolhours x = Schools.school("000-");
            x.setBells(0, 420, 30, 0);
            x.setYear(20240101);
            x.holiday(20240101, 20240102);
            is(0, x::undo);
            is(NONE, x::undo);
            is(0, x::lessons);
            is(420, () -> x.bell(0, false));
            is(198, x::schoolDays);
            is(2, () -> x.holiday(20240103, 20240103));
            is(20240101, () -> x.setYear(20240108));
        });
    }

    private static void noChanges(int before) {
        List<Sentences.Call> calls = List.of(x -> x.setBells(0, 420, 30, 0), x -> x.setYear(20240101),
            x -> x.holiday(20260907, 20260907), x -> x.append('x', 0, 0, 0, 0), Schoolhours::clearTape,
            Schoolhours::write, Schoolhours::errors, x -> x.lesson(4, 0, 0, 0, false), x -> x.dropLesson(5),
            x -> x.setIll(0, 5, true), x -> x.move(0, 20), x -> x.move(0, 3), x -> x.setApart(1, 1, true),
            x -> Schools.refuse(x, "0"), x -> Schools.refuse(x, "0m0;1m0;2m0;3m0;4m0;"));
        for (Sentences.Call call : calls) {
            Schoolhours x = Schools.some();
            Schools.answer(() -> call.on(x));
            is(before, x::undo);
        }
        // no better table, no table at all
        Schoolhours x = Schools.school("000-");
        x.find();
        is(0, x::improve);
        is(1, x::undo);
        x.wish(3, 0, 0, 0);
        x.wish(3, 0, 1, 0);
        is(false, x::find);
        is(2, x::undo);
    }

    private static void latestTwenty() {
        for (int total = 0; total <= 45; total++) {
            Schoolhours x = new Schoolhours();
            for (int i = 0; i < total; i++) {
                x.setSubjects(0, i + 1);
            }
            for (int left = Math.min(total, 20) - 1; left >= 0; left--) {
                int due = left;
                is(due, x::undo);
            }
            is(NONE, x::undo);
            int oldest = total == 0 ? 63 : total <= 20 ? 63 : total - 20;
            is(oldest, () -> x.setSubjects(0, 63));
        }
        Schoolhours x = new Schoolhours();
        for (int i = 0; i < 21; i++) {
            x.setSubjects(0, i + 1);
        }
        // three are undone, two new ones come: 19 are left, the oldest one of 21 is not among them
        is(19, x::undo);
        is(18, x::undo);
        is(17, x::undo);
        is(18, () -> x.setSubjects(0, 40));
        is(40, () -> x.setSubjects(0, 41));
        for (int left = 18; left >= 0; left--) {
            int due = left;
            is(due, x::undo);
        }
        is(NONE, x::undo);
        is(1, () -> x.setSubjects(0, 63));
    }

    // ---- Term 11.

    private static void exceptions() {
        Sentences.part("Term 11");
        sentence("If several exceptions apply to a call, the one that is listed first is thrown; a call that throws an"
            + " exception changes nothing, except that read() empties the tape and sets the error position.", () -> {
                severalExceptions();
                Schoolhours x = Schools.some();
                is(IAE, () -> Schools.refuse(x, "0m0;1m2;2m3;3t0;4f3;"));
                is(18, x::errorPosition);
                is(0, x::clearTape);
                is(Seen.look(0, Schools.some()), () -> Seen.look(0, x));
                Schoolhours y = Schools.some();
                is(ISE, () -> Schools.refuse(y, "0m0;1m2;2m0;3t0;4f2;"));
                is(NONE, y::errorPosition);
                is(0, y::clearTape);
                is(Seen.look(1, Schools.some()), () -> Seen.look(1, y));
                is(Schools.some().undo(), y::undo);
            });
        sentence("A lesson or a wish that is not there, and a place that is not there, also one below 0, causes an"
            + " IndexOutOfBoundsException; another number that is out of range, and a number that is no date, causes an"
            + " IllegalArgumentException; a question about the present table, if there is none, an"
            + " IllegalStateException.", () -> {
                Sentences.noLesson((x, lesson) -> x.dropLesson(lesson));
                Sentences.noWish((x, wish) -> x.dropWish(wish));
                Sentences.refused(IOOBE, Sentences.ALL_SCHOOLS, x -> x.proofAt(-1));
                Sentences.refused(IOOBE, Sentences.ALL_SCHOOLS, x -> x.dateOf(-1));
                Sentences.refused(IOOBE, Sentences.ALL_SCHOOLS, x -> x.writtenAt(-1));
                Sentences.refused(IOOBE, Sentences.ALL_SCHOOLS, x -> x.proofAt(12));
                Sentences.refused(IOOBE, Sentences.ALL_SCHOOLS, x -> x.dateOf(200));
                Sentences.refused(IOOBE, Sentences.ALL_SCHOOLS, x -> x.writtenAt(36));
                Sentences.refused(IAE, Sentences.ALL_SCHOOLS, x -> x.examDay(-1));
                Sentences.refused(IAE, Sentences.ALL_SCHOOLS, x -> x.dayOfWeek(20260229));
                for (Sentences.Call question : questions()) {
                    Sentences.noTable(question);
                }
            });
    }

    private static List<Sentences.Call> questions() {
        return List.of(x -> x.lessonAt(true, 0, 0), Schoolhours::cost, x -> x.gaps(false, 0), Schoolhours::improve,
            x -> x.ill(0, true), x -> x.takes(0), x -> x.lostLessons(0), Schoolhours::write, Schoolhours::meanSlot,
            Schoolhours::taken);
    }

    /** Calls to which two or three exceptions apply. */
    private static void severalExceptions() {
        List<Sentences.Call> placeAhead = List.of(x -> x.lessonOf(9, 5), x -> x.wishOf(12, 4), x -> x.slotOf(-1),
            x -> x.roomOf(9), x -> x.choices(9), x -> x.move(9, 20), x -> x.move(9, 0), x -> x.holds(12),
            x -> x.substitute(9, 20), x -> x.substitute(-1, 0), x -> x.wish(2, 9, 0, 0), x -> x.wish(6, 9, 0, 0),
            x -> x.wish(4, 0, 9, 0));
        for (Sentences.Call call : placeAhead) {
            Sentences.refused(IOOBE, Sentences.ALL_SCHOOLS, call);
        }
        List<Sentences.Call> rangeAhead = List.of(x -> x.lesson(0, 0, 0, 3, false), x -> x.lesson(0, 6, 6, 0, true),
            x -> x.setSubjects(6, 0), x -> x.setSubjects(0, 64), x -> x.wish(7, 9, 9, 0), x -> x.wish(2, 9, 5, 0),
            x -> x.wish(3, 9, 20, 0), x -> x.wish(4, 9, 9, 0), x -> x.wish(6, -1, 0, 10), x -> x.wish(0, 6, 0, 0),
            x -> x.lessonAt(true, 6, 0), x -> x.lessonAt(false, 0, 20), x -> x.gaps(true, 6), x -> x.ill(5, true),
            x -> x.takes(6), x -> x.lostLessons(4), x -> x.holiday(20260908, 20260907));
        for (Sentences.Call call : rangeAhead) {
            Sentences.refused(IAE, Sentences.ALL_SCHOOLS, call);
        }
        Sentences.refused(IAE, Schools::stuck, x -> x.move(0, 20));
        Sentences.refused(IAE, Schools::stuck, x -> x.substitute(0, 20));
        Sentences.refused(IAE, Schools::full, x -> x.lesson(0, 5, 1, 0, false));
        Schoolhours x = Schools.school("000- 011-");
        is(IAE, () -> Schools.put(x, "0m0;1m0;;"));
        is(8, x::errorPosition);
    }
}
