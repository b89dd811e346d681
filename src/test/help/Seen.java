import java.util.concurrent.Callable;

/**
 * All that can be seen of a school, as texts. What looks changes some of it, and an object has 512
 * calls alone, so there are several looks, each for an object of its own.
 */
final class Seen {
    static final int LOOKS = 4;

    private final StringBuilder text = new StringBuilder();
    private int calls;

    private Seen() {
    }

    static String look(int number, Schoolhours x) {
        Seen seen = new Seen();
        switch (number) {
            case 0:
                seen.table(x);
                break;
            case 1:
                seen.illness(x);
                seen.school(x);
                break;
            case 2:
                seen.school(x);
                seen.examsBellsYear(x);
                seen.texts(x);
                seen.changes(x);
                break;
            default:
                seen.told(x);
        }
        if (seen.calls > 400) {
            throw new IllegalStateException("the look " + number + " takes " + seen.calls + " calls");
        }
        return seen.text.toString();
    }

    private Object ask(String name, Callable<Object> call) {
        calls++;
        Object answer = Schools.answer(call);
        text.append(name).append(' ').append(answer).append('\n');
        return answer;
    }

    private void table(Schoolhours x) {
        ask("checksum", x::checksum);
        ask("cost", x::cost);
        ask("meanSlot", x::meanSlot);
        ask("taken", x::taken);
        for (int i = 0; i < 9; i++) {
            int lesson = i;
            ask("slotOf", () -> x.slotOf(lesson));
            ask("roomOf", () -> x.roomOf(lesson));
            ask("choices", () -> x.choices(lesson));
        }
        for (int i = 0; i < 12; i++) {
            int wish = i;
            ask("holds", () -> x.holds(wish));
        }
        for (int i = 0; i < 10; i++) {
            boolean isTeacher = i >= 4;
            int who = isTeacher ? i - 4 : i;
            ask("gaps", () -> x.gaps(isTeacher, who));
            for (int j = 0; j < 20; j++) {
                int slot = j;
                ask("lessonAt", () -> x.lessonAt(isTeacher, who, slot));
            }
        }
    }

    private void illness(Schoolhours x) {
        for (int i = 0; i < 5; i++) {
            int day = i;
            ask("ill", () -> x.ill(day, false));
            ask("left", () -> x.ill(day, true));
        }
        for (int i = 0; i < 9 * 20; i++) {
            int place = i;
            ask("substitute", () -> x.substitute(place / 20, place % 20));
        }
        for (int i = 0; i < 6; i++) {
            int teacher = i;
            ask("takes", () -> x.takes(teacher));
        }
        for (int i = 0; i < 9; i++) {
            int lesson = i;
            ask("colour", () -> x.colour(lesson));
        }
        ask("most", x::most);
        ask("errors", x::errors);
    }

    private void school(Schoolhours x) {
        text.append(Schools.lessons(x)).append('\n').append(Schools.wishes(x)).append('\n');
        calls += 1 + 6 * x.lessons() + 5 * x.wishes();
        ask("proof", x::proof);
        text.append(Schools.proof(x)).append('\n');
        calls += 2 * Math.max(x.proof(), 0);
    }

    private void examsBellsYear(Schoolhours x) {
        ask("daysNeeded", x::daysNeeded);
        ask("group", x::group);
        text.append(Schools.examDays(x)).append('\n');
        calls += 8;
        for (int i = 0; i < 40; i++) {
            int place = i;
            ask("bell", () -> x.bell(place / 2, place % 2 == 1));
        }
        ask("schoolDays", x::schoolDays);
        for (int i = 0; i < 200; i += 8) {
            int number = i;
            ask("dateOf", () -> x.dateOf(number));
        }
        for (int i = 0; i < 4; i++) {
            int group = i;
            ask("lostLessons", () -> x.lostLessons(group));
        }
    }

    private void texts(Schoolhours x) {
        ask("errorPosition", x::errorPosition);
        for (int i = 0; i < 36 && ask("writtenAt", charAt(x, i)) instanceof Character; i++) {
            calls++;
        }
    }

    private static Callable<Object> charAt(Schoolhours x, int index) {
        return () -> x.writtenAt(index);
    }

    /** What is undone, as far as it goes; most of it is told by few calls. */
    private void changes(Schoolhours x) {
        for (int i = 0; i < 22; i++) {
            ask("undo", x::undo);
            ask("lessons", x::lessons);
            ask("wishes", x::wishes);
            ask("checksum", x::checksum);
        }
    }

    /** What was told, asked by telling it anew; and the tape. */
    private void told(Schoolhours x) {
        ask("holiday", () -> x.holiday(20991231, 20991231));
        ask("setYear", () -> x.setYear(20260907));
        for (int i = 0; i < 30; i++) {
            int place = i;
            ask("setIll", () -> x.setIll(place / 5, place % 5, false));
        }
        for (int i = 0; i < 64; i++) {
            int place = i;
            ask("setApart", () -> x.setApart(place / 8, place % 8, false));
        }
        ask("onTape", () -> x.append(0, 0, 0, 0, 0));
        ask("read", x::read);
        ask("errorPosition", x::errorPosition);
        ask("checksum", x::checksum);
        for (int i = 0; i < 6; i++) {
            int teacher = i;
            ask("setSubjects", () -> x.setSubjects(teacher, 63));
        }
        for (int i = 0; i < 3; i++) {
            int kind = i;
            ask("setRooms", () -> x.setRooms(kind, 3));
        }
    }
}
