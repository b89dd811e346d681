import java.util.List;
import java.util.concurrent.Callable;
import java.util.function.Supplier;

/** The promises 47 to 57 of the document, sentence by sentence: texts, undo, figures and second ways. */
public final class LastSentences {
    private static final int NONE = Schoolhours.NONE;
    private static final Class<?> IAE = Sentences.IAE;
    private static final Class<?> ISE = Sentences.ISE;
    private static final Class<?> IOOBE = Sentences.IOOBE;
    private static final String TWO = "000-/2 111-";
    private static final String SINGLES = "000- 111- 222- 333- 044- 155- 201- 312- 023-";
    private static final String DOUBLES = "000-/2 111-/2 222-/2 333-/2 044-/2 155-/2 201-/2 312-/2 023-/2";

    public static void main(String[] args) {
        append();
        fullTape();
        clearTape();
        read();
        readExceptions();
        errorPosition();
        write();
        writtenAt();
        undo();
        checksum();
        meanSlot();
        taken();
        errors();
        Sentences.end();
    }

    private static void sentence(String words, Runnable test) {
        Sentences.sentence(words, test);
    }

    private static void is(Object due, Callable<Object> call) {
        Sentences.is(due, call);
    }

    // ---- Texts.

    private static void append() {
        Sentences.part("Promise 47");
        sentence("Appends bytes to the tape: the four bytes of each parameter, the most significant byte first, in the"
            + " order of the parameters.", () -> {
                // a byte that fits nowhere stands behind so many blanks
                for (int i = 0; i < 20; i++) {
                    int place = i;
                    for (int sign : new int[] {1, 'x', 0x7f, 0x80, 0xff}) {
                        int[] words = new int[5];
                        for (int at = 0; at < 20; at++) {
                            words[at / 4] |= (at == place ? sign : at % 2 == 0 ? ' ' : '\n') << 8 * (3 - at % 4);
                        }
                        Schoolhours x = Schools.school(TWO);
                        is(20, () -> x.append(words[0], words[1], words[2], words[3], words[4]));
                        is(IAE, x::read);
                        is(place, x::errorPosition);
                    }
                }
                Schoolhours x = Schools.school("000- 111- 222- 333- 044-");
                is(20, () -> x.append(word("0m0;"), word("1t1;"), word("2w2;"), word("3h3;"), word("4f0;")));
                is(0, x::read);
                is("0 5 10 15 16", () -> Schools.slots(x));
                // one call behind the other one
                is(3, () -> x.append(word("4m"), '2', 0, 0, 0));
                is(20, () -> x.append(word(";2t0"), word(";0w0"), word(";1h0"), word(";3f0"), ';'));
                is(0, x::read);
                is("8 12 4 16 2", () -> Schools.slots(x));
            });
        sentence("Bytes that are 0 are left out.", () -> {
            // all sets of the twenty places
            for (int i = 0; i < 1 << 20; i += 997) {
                int set = i;
                int[] words = new int[5];
                for (int at = 0; at < 20; at++) {
                    words[at / 4] |= (set >> at & 1) * ' ' << 8 * (3 - at % 4);
                }
                Schoolhours x = Schools.school("000-");
                is(Integer.bitCount(set), () -> x.append(words[0], words[1], words[2], words[3], words[4]));
                is(Integer.bitCount(set), x::clearTape);
            }
            Schoolhours x = Schools.school("000-");
            is(0, () -> x.append(0, 0, 0, 0, 0));
            is(3, () -> x.append('0' << 24, 'm' << 8, 0, '2' << 16, 0));
            is(4, () -> x.append(0, 0, 0, 0, ';'));
            is(0, x::read);
            is(2, () -> x.slotOf(0));
        });
        sentence("Returns the number of bytes on the tape afterwards.", () -> {
            Schoolhours x = new Schoolhours();
            is(4, () -> x.append(-1, 0, 0, 0, 0));
            is(24, () -> x.append(-1, -1, -1, -1, -1));
            is(24, () -> x.append(0, 0, 0, 0, 0));
            is(25, () -> x.append(0, 0, 0, 0, 1));
            is(27, () -> x.append(0, 0, 0x00ff00ff, 0, 0));
            is(28, () -> x.append(0, Integer.MIN_VALUE, 0, 0, 0));
            is(32, () -> x.append(0, 0, 0, Integer.MAX_VALUE, 0));
            is(32, x::clearTape);
            is(1, () -> x.append(0x100, 0, 0, 0, 0));
        });
    }

    private static int word(String text) {
        int word = 0;
        for (int i = 0; i < text.length(); i++) {
            word = word << 8 | text.charAt(i);
        }
        return word;
    }

    private static void fullTape() {
        sentence("Throws `IllegalStateException` if the tape would have more than 100 bytes", () -> {
            for (int length = 75; length <= 100; length++) {
                for (int more = 0; more <= 20; more++) {
                    filled(length, more);
                }
            }
            for (int i = 0; i < 5; i++) {
                int[] words = new int[5];
                words[i] = 1;
                Supplier<Schoolhours> made = () -> tapeOf(100);
                Sentences.refused(ISE, made, x -> x.append(words[0], words[1], words[2], words[3], words[4]));
                Sentences.refused(ISE, made, x -> x.append(words[0] << 24, words[1] << 24, words[2] << 24, words[3] << 24,
                    words[4] << 24));
            }
            Sentences.refused(ISE, () -> tapeOf(99), x -> x.append('1', 0, 0, 0, '2'));
            Sentences.refused(ISE, () -> tapeOf(81), x -> x.append(-1, -1, -1, -1, -1));
            Schoolhours x = tapeOf(100);
            is(100, () -> x.append(0, 0, 0, 0, 0));
            is(100, x::clearTape);
            is(20, () -> x.append(-1, -1, -1, -1, -1));
        });
    }

    private static Schoolhours tapeOf(int length) {
        Schoolhours x = Schools.school(TWO);
        x.find();
        Schools.type(x, " ".repeat(length));
        return x;
    }

    private static void filled(int length, int more) {
        Schoolhours x = tapeOf(length);
        int[] words = new int[5];
        for (int at = 0; at < more; at++) {
            words[at % 5] |= 'x' << 8 * (at / 5);
        }
        is(length + more <= 100 ? length + more : ISE, () -> x.append(words[0], words[1], words[2], words[3], words[4]));
        is(IAE, x::read);
        // of what was refused nothing is on the tape
        is(length, x::errorPosition);
    }

    private static void clearTape() {
        Sentences.part("Promise 48");
        sentence("Empties the tape.", () -> {
            Schoolhours x = Schools.school("000-");
            Schools.type(x, "0m9;");
            x.clearTape();
            is(NONE, x::errorPosition);
            Schools.type(x, "0m1;");
            is(0, x::read);
            is(1, () -> x.slotOf(0));
        });
        sentence("Returns the number of bytes that were on it.", () -> {
            for (int length = 0; length <= 100; length++) {
                int due = length;
                Schoolhours x = tapeOf(length);
                is(due, x::clearTape);
                is(0, x::clearTape);
                is(0, () -> x.append(0, 0, 0, 0, 0));
            }
            is(0, () -> new Schoolhours().clearTape());
        });
    }

    private static void read() {
        Sentences.part("Promise 49");
        sentence("Makes the table on the tape the present one, and empties the tape.", () -> {
            Schoolhours x = Schools.school(TWO);
            Schools.type(x, "1f3;0t2;");
            is(0, x::read);
            is("6 19", () -> Schools.slots(x));
            is(0, x::clearTape);
            is(2, x::undo);
            is(ISE, () -> x.slotOf(0));
            is(0, x::clearTape);
            // the same table again is a change, too
            Schools.put(x, 6, 19);
            Schools.put(x, 6, 19);
            is(3, x::undo);
            is("6 19", () -> Schools.slots(x));
            // a full tape, and an empty one
            is(0, () -> Schools.put(x, "0m0;1m0;" + " ".repeat(92)));
            is("0 0", () -> Schools.slots(x));
            Schoolhours empty = new Schoolhours();
            is(0, empty::read);
            is(17, empty::checksum);
            is(0, empty::undo);
        });
        sentence("Returns the cost.", () -> {
            Schoolhours x = Schools.wish(Schools.school("000- 011-"), 3, 0, 2, 9, 4, 0, 1, 1);
            is(9 + 2, () -> Schools.put(x, 0, 3));
            is(11, x::cost);
            is(9 + 1, () -> Schools.put(x, 0, 4));
            is(0, () -> Schools.put(x, 2, 3));
            is(0, x::cost);
        });
    }

    private static void readExceptions() {
        sentence("Throws `IllegalArgumentException` if the text has an error", () -> {
            for (String text : new String[] {"", "0", "0m", "0m0", "0m0;", "0m3;1m0;", "0m0;1m0;2m0;", "0m0;0m0;", "x",
                "0m0;1m0;;", "0m4;1m0;", "0s0;1m0;", "0m0:1m0;", "\t0m0;1m0;"}) {
                refusedText(IAE, () -> Schools.school(TWO), text);
                refusedText(IAE, () -> withTable(TWO), text);
            }
            for (String text : new String[] {"", "0m0;1m0;2m0;3m0;4f2;5m0;", "0m0;1m2;2m3;3t0;4f3;", "0m0;1m2;2m3;3t0;4f2"}) {
                refusedText(IAE, Schools::some, text);
            }
            refusedText(IAE, Schoolhours::new, "0m0;");
            refusedText(IAE, Schoolhours::new, ";");
            // the error of a text goes ahead of a table that is not right
            refusedText(IAE, Schools::some, "0m0;1m0;2m0;3m0;4f2;;");
        });
        sentence("Throws `IllegalStateException` if the table is not right", () -> {
            refusedText(ISE, Schools::some, "0m0;1m0;2m3;3t0;4f2;");
            refusedText(ISE, Schools::some, "0m0;1m2;2f3;3t0;4f2;");
            refusedText(ISE, () -> withTable("000- 101-"), "0m0;1m0;");
            refusedText(ISE, () -> withTable("000- 010-"), "0m0;1m3;");
            refusedText(ISE, () -> withTable("0000 1110 2220 3330"), "0f3;1f3;2f3;3f3;");
            refusedText(ISE, () -> Schools.wish(withTable(TWO), 5, 0, 1, 0), "0m0;1m3;");
            refusedText(ISE, Schools::stuck, "0m0;1m0;2m0;");
        });
    }

    private static Schoolhours withTable(String lessons) {
        Schoolhours x = Schools.school(lessons);
        x.find();
        return x;
    }

    /** A text is refused: the tape is empty then, the error position told, and all else as it was. */
    private static void refusedText(Class<?> due, Supplier<Schoolhours> made, String text) {
        for (int i = 0; i < Seen.LOOKS; i++) {
            int look = i;
            Schoolhours x = made.get();
            is(due, () -> Schools.refuse(x, text));
            if (look == 0) {
                is(0, x::clearTape);
                is(due == ISE, () -> x.errorPosition() == NONE);
            }
            Schoolhours untouched = made.get();
            untouched.clearTape();
            is(butErrorPosition(Seen.look(look, untouched)), () -> butErrorPosition(Seen.look(look, x)));
        }
    }

    private static String butErrorPosition(String seen) {
        return seen.replaceAll("errorPosition [^\n]*\n", "");
    }

    private static void errorPosition() {
        Sentences.part("Promise 50");
        sentence("Returns the error position of the latest read().", () -> {
            Schoolhours x = Schools.school(TWO);
            is(IAE, () -> Schools.put(x, "0m0x"));
            is(3, x::errorPosition);
            is(IAE, () -> Schools.put(x, "0t"));
            is(2, x::errorPosition);
            is(IAE, x::read);
            is(0, x::errorPosition);
            is(0, () -> Schools.put(x, "0m0;1m0;"));
            is(NONE, x::errorPosition);
            is(IAE, () -> Schools.put(x, "0m0;1m0;" + " ".repeat(91) + "0"));
            is(99, x::errorPosition);
            // what comes behind it leaves it
            x.undo();
            x.clearTape();
            Schools.type(x, "x");
            x.find();
            x.write();
            is(99, x::errorPosition);
        });
        sentence("Returns the position; NONE if the text had no error, or there was no read().", () -> {
            is(NONE, () -> new Schoolhours().errorPosition());
            Schoolhours x = Schools.school("000- 011-");
            Schools.type(x, "0m0;1m0");
            is(NONE, x::errorPosition);
            is(IAE, x::read);
            is(7, x::errorPosition);
            // the table is not right, but the text had no error
            is(ISE, () -> Schools.put(x, "0m0;1m0;"));
            is(NONE, x::errorPosition);
            is(IAE, () -> Schools.put(x, " ".repeat(100)));
            is(100, x::errorPosition);
            is(IAE, () -> Schools.put(x, "2"));
            is(0, x::errorPosition);
        });
    }

    private static void write() {
        Sentences.part("Promise 51");
        sentence("Writes the present table, in place of what was written before: the places of all lessons, in their order,"
            + " each as LESSON, DAY, HOUR and ; .", () -> {
                Schoolhours x = Schools.school(SINGLES);
                Schools.put(x, "8f3;7f2;6h3;5h0;4w1;3w3;2t2;1m1;0m0;");
                x.write();
                is("0m0;1m1;2t2;3w3;4w1;5h0;6h3;7f2;8f3;", () -> Schools.written(x));
                x.move(0, 18);
                is("0m0;1m1;2t2;3w3;4w1;5h0;6h3;7f2;8f3;", () -> Schools.written(x));
                is(ISE, () -> {
                    x.dropLesson(8);
                    return x.write();
                });
                is("0m0;1m1;2t2;3w3;4w1;5h0;6h3;7f2;8f3;", () -> Schools.written(x));
                x.find();
                x.write();
                is("0m0;1m0;2m0;3m0;4m1;5m1;6m1;7m1;", () -> Schools.written(x));
                for (int slot = 0; slot < 20; slot++) {
                    Schoolhours y = Schools.school("000-");
                    Schools.put(y, slot);
                    y.write();
                    String due = Schools.place(0, slot);
                    is(due, () -> Schools.written(y));
                }
            });
        sentence("Returns the number of signs.", () -> {
            Schoolhours x = new Schoolhours();
            x.find();
            is(0, x::write);
            is("", () -> Schools.written(x));
            for (int i = 1; i <= 9; i++) {
                int lessons = i;
                Schools.add(x, SINGLES.split(" ")[lessons - 1]);
                x.find();
                is(4 * lessons, x::write);
            }
            // a text of all lessons can be read again
            is(36, () -> Schools.written(x).length());
            is(x.cost(), () -> Schools.put(x, Schools.written(x)));
        });
        Sentences.asksTable(Sentences.WITHOUT_TABLE, Schoolhours::write);
    }

    private static void writtenAt() {
        Sentences.part("Promise 52");
        sentence("Returns a sign of what was written last.", () -> {
            Schoolhours x = Schools.school("000- 111-");
            Schools.put(x, 7, 8);
            x.write();
            Schools.put(x, 9, 10);
            is('t', () -> x.writtenAt(1));
            x.write();
            is('w', () -> x.writtenAt(1));
            // it stays, whatever changes
            x.undo();
            x.undo();
            x.undo();
            is('w', () -> x.writtenAt(1));
            is("0w1;1w2;", () -> Schools.written(x));
        });
        sentence("- `index`: index of a sign, from 0", () -> {
            Schoolhours x = Schools.school(SINGLES);
            x.find();
            x.write();
            is('0', () -> x.writtenAt(0));
            is('m', () -> x.writtenAt(1));
            is('8', () -> x.writtenAt(32));
            is(';', () -> x.writtenAt(35));
        });
        sentence("Returns the sign.", () -> {
            Schoolhours x = Schools.school("000- 111- 222- 333- 044-");
            Schools.put(x, 0, 5, 10, 15, 16);
            x.write();
            is("0m0;1t1;2w2;3h3;4f0;", () -> Schools.written(x));
        });
        sentence("Throws `IndexOutOfBoundsException` if there is no such sign, or nothing was written", () -> {
            for (int index : Sentences.beyond(0, 35)) {
                Sentences.refused(IOOBE, Schools::full, x -> x.writtenAt(index));
            }
            for (int index : Sentences.beyond(0, 19)) {
                Sentences.refused(IOOBE, Schools::some, x -> x.writtenAt(index));
            }
            for (int index : Sentences.beyond(0, -1)) {
                Sentences.refused(IOOBE, Schoolhours::new, x -> x.writtenAt(index));
                Sentences.refused(IOOBE, () -> withTable(TWO), x -> x.writtenAt(index));
            }
            // the empty table is written in place of another one
            Schoolhours x = withTable("000-");
            x.write();
            x.dropLesson(0);
            x.find();
            is(';', () -> x.writtenAt(3));
            x.write();
            is(IOOBE, () -> x.writtenAt(0));
        });
    }

    // ---- Undo, figures, second ways.

    private static void undo() {
        Sentences.part("Promise 53");
        sentence("Undoes the latest change that can be undone.", () -> {
            Schoolhours x = Schools.school("000- 111-");
            x.find();
            x.move(0, 5);
            x.setIll(0, 1, true);
            x.undo();
            is("5 0", () -> Schools.slots(x));
            is(0, () -> x.ill(1, false));
            x.undo();
            is("0 0", () -> Schools.slots(x));
            x.undo();
            is(ISE, () -> x.slotOf(0));
            x.undo();
            is("000-", () -> Schools.lessons(x));
            // a new change behind undone ones
            x.setRooms(1, 1);
            x.undo();
            is("000-", () -> Schools.lessons(x));
            is(3, () -> x.setRooms(1, 3));
        });
        sentence("Returns the number of changes that can still be undone; NONE, and nothing is different, if there was"
            + " none.", () -> {
                is(NONE, () -> new Schoolhours().undo());
                for (int total = 1; total <= 25; total++) {
                    Schoolhours x = new Schoolhours();
                    for (int i = 0; i < total; i++) {
                        x.setRooms(2, i % 4);
                    }
                    int due = Math.min(total, 20) - 1;
                    is(due, x::undo);
                }
                for (Supplier<Schoolhours> made : List.<Supplier<Schoolhours>>of(Schoolhours::new, LastSentences::told,
                    LastSentences::undone)) {
                    Sentences.leaves(NONE, made, Schoolhours::undo);
                }
                // the proof stays, too
                is("0 2 3", () -> {
                    Schoolhours x = undone();
                    x.undo();
                    return Schools.proof(x);
                });
            });
    }

    /** Told of all that is no change. */
    private static Schoolhours told() {
        Schoolhours x = new Schoolhours();
        x.setBells(0, 420, 30, 0);
        x.setYear(20240101);
        x.holiday(20240101, 20240101);
        Schools.refuse(x, "0");
        Schools.type(x, "0m0;");
        return x;
    }

    /** Without a change that can be undone, but with lessons, wishes, a proof and what was written. */
    private static Schoolhours undone() {
        Schoolhours x = Schools.stuck();
        for (int i = 0; i < 20; i++) {
            x.setSubjects(5, 63);
        }
        while (x.undo() > 0) {
            x.lessons();
        }
        x.find();
        return x;
    }

    private static void checksum() {
        Sentences.part("Promise 54");
        sentence("Returns a sum of the present table: 17 at first, then for each lesson 31 times as much and its slot; it"
            + " wraps; 0 without a table.", () -> {
                is(0, () -> new Schoolhours().checksum());
                is(0, () -> Schools.stuck().checksum());
                is(17, () -> withTable("").checksum());
                is(17 * 31, () -> withTable("000-").checksum());
                Schoolhours x = Schools.school(SINGLES);
                is(0, x::checksum);
                int[][] tables = {{0, 0, 0, 0, 1, 1, 1, 1, 2}, {19, 19, 19, 19, 18, 18, 18, 18, 17},
                    {16, 1, 9, 3, 13, 5, 19, 0, 7}};
                for (int[] slots : tables) {
                    Schools.put(x, slots);
                    long sum = 17;
                    for (int slot : slots) {
                        sum = 31 * sum + slot;
                    }
                    int due = (int) sum;
                    is(true, () -> due != 0);
                    is(due, x::checksum);
                }
                // far more than an int holds
                is(true, () -> 17L * 31 * 31 * 31 * 31 * 31 * 31 > Integer.MAX_VALUE);
                x.setRooms(0, 3);
                is(0, x::checksum);
            });
        sentence("Returns the sum.", () -> {
            Schoolhours x = Schools.school("000- 111-");
            Schools.put(x, 3, 5);
            is(31 * (31 * 17 + 3) + 5, x::checksum);
            Schools.put(x, 5, 3);
            is(31 * (31 * 17 + 5) + 3, x::checksum);
        });
    }

    private static void meanSlot() {
        Sentences.part("Promise 55");
        sentence("Returns the mean slot of the present table.", () -> {
            Schoolhours x = Schools.school("000-/2 111-");
            Schools.put(x, 4, 7);
            is(5.5, x::meanSlot);
            x.move(0, 5);
            is(6.0, x::meanSlot);
        });
        sentence("Returns the sum of the slots at which lessons begin, converted to double, divided by the number of"
            + " lessons, converted to double; 0.0 without lessons.", () -> {
                is(0.0, () -> withTable("").meanSlot());
                is(0.0, () -> withTable("000-").meanSlot());
                for (int slot = 0; slot < 20; slot++) {
                    Schoolhours x = Schools.school("000- 111- 222-");
                    Schools.put(x, slot, 19, 7);
                    double due = (double) (slot + 26) / 3.0;
                    is(due, x::meanSlot);
                }
                Schoolhours x = Schools.school(SINGLES);
                Schools.put(x, 19, 19, 19, 19, 18, 18, 18, 18, 17);
                is(165.0 / 9.0, x::meanSlot);
            });
        Sentences.asksTable(Sentences.WITHOUT_TABLE, Schoolhours::meanSlot);
    }

    private static void taken() {
        Sentences.part("Promise 56");
        sentence("Returns the share of all slots of all classes that lessons take, in the present table.", () -> {
            is(2 / 80.0f, () -> withTable("000-/2").taken());
            is(3 / 80.0f, () -> withTable("000-/2 111-").taken());
            is(4 / 80.0f, () -> withTable("000-/2 111-/2").taken());
        });
        sentence("Returns the slots that all lessons take, converted to float, divided by 80.0f.", () -> {
            is(0.0f, () -> withTable("").taken());
            for (int i = 1; i <= 9; i++) {
                int lessons = i;
                is((float) lessons / 80.0f, () -> withTable(first(SINGLES, lessons)).taken());
                is((float) (2 * lessons) / 80.0f, () -> withTable(first(DOUBLES, lessons)).taken());
            }
        });
        Sentences.asksTable(Sentences.WITHOUT_TABLE, Schoolhours::taken);
    }

    private static String first(String lessons, int total) {
        return String.join(" ", List.of(lessons.split(" ")).subList(0, total));
    }

    private static void errors() {
        Sentences.part("Promise 57");
        sentence("Holds the school against its theorem: 1 if the present table is not right, or the first one comes behind"
            + " it; colours that two lessons of one class or one teacher share, counted by pairs of lessons; 1 if the"
            + " greatest group has more exams than days are needed, or two exams apart have one day; and 1 if a lesson"
            + " without a substitute could be taken by a teacher who takes none at its slot.", () -> {
                for (Supplier<Schoolhours> made : Sentences.ALL_SCHOOLS) {
                    Sentences.leaves(0, made, Schoolhours::errors);
                }
                tablesHeld();
                coloursHeld();
                examsHeld();
                substitutesHeld();
            });
        sentence("Returns the sum of these; always 0.", () -> {
            is(0, () -> new Schoolhours().errors());
            is(0, () -> withTable("").errors());
            is(0, () -> Schools.stuck().errors());
            is(0, () -> Schools.some().errors());
            is(0, () -> Schools.full().errors());
        });
    }

    /** The first table is not behind any right one: it itself, the last one, and those between. */
    private static void tablesHeld() {
        Schoolhours x = Schools.wish(Schools.school(TWO), 6, 0, 1, 0);
        is(0, x::errors);
        x.find();
        is(0, x::errors);
        Schools.put(x, 18, 19);
        is(0, x::errors);
        Schools.put(x, 0, 2);
        is(0, x::errors);
        is("0 2", () -> Schools.slots(x));
        Schoolhours nine = withTable(DOUBLES);
        is(0, nine::errors);
        nine.move(8, 18);
        is(0, nine::errors);
        // of a wish that went nothing is left
        Schoolhours y = Schools.wish(Schools.school(TWO), 3, 0, 5, 0);
        Schools.put(y, 5, 5);
        y.dropWish(0);
        y.find();
        is("0 0", () -> Schools.slots(y));
        is(0, y::errors);
        // without a right table there is nothing to hold
        Schools.wish(x, 6, 1, 0, 0);
        is(false, x::find);
        is(0, x::errors);
        is("0 1", () -> Schools.proof(x));
    }

    private static void coloursHeld() {
        for (String lessons : new String[] {SINGLES, DOUBLES, "050- 230- 120- 220- 110- 010-", "000- 010- 120- 110-",
            "000- 000- 000- 000- 000- 000- 000- 000- 000-"}) {
            Schoolhours x = Schools.school(lessons);
            is(0, x::errors);
            for (int i = 0; i < x.lessons(); i++) {
                for (int j = 0; j < i; j++) {
                    int one = i;
                    int other = j;
                    boolean meet = x.lessonOf(one, 0) == x.lessonOf(other, 0) || x.lessonOf(one, 1) == x.lessonOf(other, 1);
                    is(true, () -> !meet || x.colour(one) != x.colour(other));
                }
            }
        }
    }

    private static void examsHeld() {
        // a ring of five with a wheel takes more days than its greatest group has exams
        Schoolhours x = new Schoolhours();
        for (String pair : "01 12 23 34 40 05 15 25 35 45 67".split(" ")) {
            x.setApart(pair.charAt(0) - '0', pair.charAt(1) - '0', true);
            is(0, x::errors);
            is(true, () -> Integer.bitCount(x.group()) <= x.daysNeeded());
        }
        is("3 4", () -> Integer.bitCount(x.group()) + " " + x.daysNeeded());
    }

    private static void substitutesHeld() {
        // nobody can take lesson 0, but many could take lesson 1, who has a substitute
        Schoolhours left = new Schoolhours();
        for (int teacher = 0; teacher < 6; teacher++) {
            left.setSubjects(teacher, teacher == 3 ? 63 : 62);
        }
        Schools.add(left, "030- 141-");
        left.find();
        left.setIll(3, 0, true);
        left.setIll(4, 0, true);
        is("-1 0", () -> Schools.substitutes(left, 0));
        is(0, left::errors);
        Schoolhours x = Schools.school("030- 141- 252-");
        for (int sets = 0; sets < 1 << 6; sets++) {
            for (int teacher = 0; teacher < 3; teacher++) {
                x.setSubjects(teacher, sets * 37 >> 2 * teacher & 7);
                x.setIll(3 + teacher, 0, (sets >> teacher & 1) == 1);
            }
            Schools.put(x, 0, 0, 0);
            is(0, x::errors);
            if (sets % 20 == 19) {
                x = Schools.school("030- 141- 252-");
            }
        }
    }
}
