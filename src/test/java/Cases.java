/** What the cases of the sentences share. */
final class Cases {
    interface Reading {
        long of(ChapterBuilder builder);
    }

    interface Making {
        void make(ChapterBuilder builder);
    }

    /** Numbers that pass the range of an int or of a long by so much that the rest would be 1 again. */
    private static final String[] WRAPPED = {"4294967297", "18446744073709551617", "1" + "0".repeat(60) + "1"};

    private Cases() {
    }

    /** A text with an error: its code, its place, and a show that stays. */
    static void error(Check c, String text, int code, int position) {
        ChapterBuilder x = new ChapterBuilder();
        c.equal(text, code, Check.loadText(x, text));
        c.equal("position in " + text, position, x.errorPosition());
        c.equal("segments after " + text, 0, x.count(0));
        c.equal("slots after " + text, 0, x.count(2));
    }

    /** A text without an error. */
    static void fine(Check c, String text, int segments) {
        ChapterBuilder x = new ChapterBuilder();
        c.equal(text, segments, Check.loadText(x, text));
        c.equal("no error in " + text, -1, x.errorPosition());
    }

    /** A number in a text: the ends of its range are read, what lies beside them is an error at its first digit. */
    static void numberInText(Check c, String ahead, String behind, int lowest, int highest, Reading reading) {
        for (int value : new int[] {lowest, highest}) {
            ChapterBuilder x = new ChapterBuilder();
            c.isTrue(ahead + value + behind, Check.loadText(x, ahead + value + behind) >= 0);
            c.equal("what was read of " + ahead + value + behind, value, reading.of(x));
        }
        if (lowest > 0) {
            error(c, ahead + (lowest - 1) + behind, -3, ahead.length());
        }
        error(c, ahead + (highest + 1) + behind, -3, ahead.length());
        for (String wrapped : WRAPPED) {
            error(c, ahead + wrapped + behind, -3, ahead.length());
        }
        error(c, ahead + "-1" + behind, -2, ahead.length());
    }

    /** A number of a call: the ends of its range are taken. */
    static void taken(Check c, String what, int lowest, int highest, Check.Asked call) {
        for (int number : new int[] {lowest, highest}) {
            c.isTrue(what + " takes " + number, !Check.outcome(() -> call.answer(number)).startsWith("throws."));
        }
    }

    /** A show of equal segments. */
    static ChapterBuilder row(int segments, int duration, String settings) {
        return Check.show(settings + ("seg " + duration + " 9 a;").repeat(segments));
    }

    /** As many segments with words by turns, so that with the window 1 each change is 100. */
    static ChapterBuilder turns(int segments, int duration, String settings) {
        StringBuilder text = new StringBuilder("set 0 1;set 2 1;").append(settings);
        for (int i = 0; i < segments; i++) {
            text.append("seg ").append(duration).append(" 9 ").append(i % 2 == 0 ? 'a' : 'b').append(';');
        }
        return Check.show(text.toString());
    }

    /** The last segment of each chapter but the last one. */
    static String cuts(ChapterBuilder x) {
        StringBuilder text = new StringBuilder();
        for (int chapter = 0; chapter < x.chapters() - 1; chapter++) {
            text.append(x.chapter(chapter, 1)).append(' ');
        }
        return text.toString();
    }

    static String places(ChapterBuilder x) {
        StringBuilder text = new StringBuilder();
        for (int slot = 0; slot < x.count(2); slot++) {
            text.append(x.placeOf(slot)).append(' ');
        }
        return text.toString();
    }

    /** Wished times and lengths of the slots. */
    static String slots(ChapterBuilder x) {
        StringBuilder text = new StringBuilder();
        for (int slot = 0; slot < x.count(2); slot++) {
            text.append(x.slot(slot, 0)).append('/').append(x.slot(slot, 1)).append(' ');
        }
        return text.toString();
    }

    static String durations(ChapterBuilder x) {
        StringBuilder text = new StringBuilder();
        for (int segment = 0; segment < x.count(0); segment++) {
            text.append(x.segment(segment, 0)).append(' ');
        }
        return text.toString();
    }

    static String written(ChapterBuilder x) {
        x.writeChapters();
        return Check.written(x);
    }

    /** A show of 225 seconds that has segments but, as it is too short, no best division. */
    static ChapterBuilder undivided() {
        return Check.show("set 0 226;" + Samples.HARBOUR);
    }
}
