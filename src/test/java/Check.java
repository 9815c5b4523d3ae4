import java.util.ArrayList;
import java.util.List;

/** Counts wrong answers of a test, prints them, and ends the test with an exit code. */
final class Check {
    interface Call {
        long answer();
    }

    /** A call with one number to try. */
    interface Asked {
        long answer(int number);
    }

    private static final int PRINTED = 40;
    private int checks;
    private int wrong;
    private String about = "";

    void equal(String what, long due, long got) {
        checks++;
        if (due != got) {
            report(what + " answered " + got + ", due is " + due);
        }
    }

    void same(String what, String due, String got) {
        checks++;
        if (!due.equals(got)) {
            report(what + " answered " + got + ", due is " + due);
        }
    }

    void isTrue(String what, boolean got) {
        equal(what, 1, got ? 1 : 0);
    }

    /** The very class counts: a subclass is another exception. */
    void raises(String what, Class<? extends RuntimeException> due, Call call) {
        same(what, "throws." + due.getSimpleName(), outcome(call));
    }

    void answers(String what, Asked call, int... numbersAndAnswers) {
        for (int i = 0; i < numbersAndAnswers.length; i += 2) {
            int number = numbersAndAnswers[i];
            same(what + " " + number, Integer.toString(numbersAndAnswers[i + 1]), outcome(() -> call.answer(number)));
        }
    }

    void raisesAll(String what, Class<? extends RuntimeException> due, Asked call, int... numbers) {
        for (int number : numbers) {
            raises(what + " " + number, due, () -> call.answer(number));
        }
    }

    /** The numbers next to a range, and those farthest from it. */
    static int[] beside(int lowest, int highest) {
        return new int[] {Integer.MIN_VALUE, lowest - 1, highest + 1, Integer.MAX_VALUE};
    }

    /** What the following checks are about, for the lines that they print. */
    void about(String text) {
        about = text.isEmpty() ? "" : text + ": ";
    }

    int checks() {
        return checks;
    }

    int wrong() {
        return wrong;
    }

    static String outcome(Call call) {
        try {
            return Long.toString(call.answer());
        } catch (RuntimeException e) {
            return "throws." + e.getClass().getSimpleName();
        }
    }

    void end(String test) {
        System.out.println(test + ": " + checks + " checks, " + wrong + " wrong");
        if (wrong > 0 || checks == 0) {
            System.exit(1);
        }
    }

    private void report(String line) {
        wrong++;
        if (wrong <= PRINTED) {
            System.out.println(about + line);
        }
    }

    // ---- shows for the tests

    /** Appends a text in blocks of 20 bytes, with spaces behind its end. */
    static void appendText(ChapterBuilder builder, String text) {
        for (int from = 0; from < text.length(); from += 20) {
            int[] words = new int[5];
            for (int i = 0; i < 20; i++) {
                int at = from + i;
                int sign = at < text.length() ? text.charAt(at) : ' ';
                words[i / 4] = words[i / 4] << 8 | sign & 255;
            }
            builder.append(words[0], words[1], words[2], words[3], words[4]);
        }
    }

    static int loadText(ChapterBuilder builder, String text) {
        appendText(builder, text);
        return builder.load(text.length());
    }

    static ChapterBuilder show(String text) {
        ChapterBuilder builder = new ChapterBuilder();
        int answer = loadText(builder, text);
        if (answer < 0) {
            throw new IllegalStateException(text + ": error " + answer + " at " + builder.errorPosition());
        }
        return builder;
    }

    static long code(String name) {
        long code = 0;
        for (int i = 0; i < name.length(); i++) {
            code = code << 5 | name.charAt(i) - 'a' + 1;
        }
        return code;
    }

    static String written(ChapterBuilder builder) {
        StringBuilder text = new StringBuilder();
        for (int i = 0; ; i++) {
            try {
                text.append((char) builder.writtenByte(i));
            } catch (IndexOutOfBoundsException e) {
                return text.toString();
            }
        }
    }

    /** The answers of all calls that ask without arguments beyond the show's own numbers. */
    static String portrait(ChapterBuilder b) {
        List<String> parts = new ArrayList<>();
        for (int what = 0; what <= 5; what++) {
            parts.add("c" + b.count(what));
        }
        for (int setting = 0; setting <= 5; setting++) {
            parts.add("s" + b.setting(setting));
        }
        for (int segment = 0; segment < b.count(0); segment++) {
            for (int what = 0; what <= 4; what++) {
                parts.add("g" + b.segment(segment, what));
            }
            for (int k = 0; k < b.segment(segment, 2); k++) {
                parts.add("w" + b.wordOf(segment, k));
            }
        }
        for (int slot = 0; slot < b.count(2); slot++) {
            for (int what = 0; what <= 2; what++) {
                parts.add("t" + b.slot(slot, what));
            }
            parts.add("p" + b.placeOf(slot));
        }
        parts.add("n" + b.chapters() + "," + b.placementCost() + "," + b.divisions());
        for (int time : new int[] {0, 10, 60, 100, 150, 300}) {
            parts.add("k" + outcome(() -> b.carried(time)));
        }
        return String.join(" ", parts);
    }
}
