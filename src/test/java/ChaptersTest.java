/** Promises 18 to 27: changes of topic and chapters. */
public final class ChaptersTest {
    private static final Check CHECK = new Check();

    public static void main(String[] args) {
        questionsAfterChanges();
        change();
        best();
        none();
        bounds();
        ties();
        chapter();
        told();
        divisions();
        worthWith();
        priceFor();
        CHECK.end("ChaptersTest");
    }

    private static void changes(ChapterBuilder x, int... due) {
        for (int boundary = 0; boundary < due.length; boundary++) {
            CHECK.equal("change " + boundary, due[boundary], x.change(boundary));
        }
    }

    /** Each question comes first after a change that gives it another answer. */
    private static void questionsAfterChanges() {
        ChapterBuilder x = Check.show(Samples.SHORT_CHAPTERS);
        CHECK.equal("chapterOf", 3, x.chapterOf(4));
        x.set(3, 100);
        CHECK.equal("chapterOf", 0, x.chapterOf(4));
        x.set(3, 40);
        CHECK.equal("change", 60, x.change(0));
        x.set(2, 1);
        CHECK.equal("change", 34, x.change(0));
        x.undo();
        CHECK.equal("chapter", 50, x.chapter(1, 2));
        x.setDuration(2, 51);
        CHECK.equal("chapter", 51, x.chapter(1, 2));
        x.undo();
        CHECK.equal("worthOf", 20, x.worthOf(1));
        x.addWord(1, 2);
        CHECK.isTrue("worthOf", x.worthOf(1) != 20);
        x.undo();
        CHECK.equal("worthOf", 20, x.worthOf(1));
        x.set(0, 41);
        CHECK.isTrue("isAllowed", !x.isAllowed(1));
        x.undo();
        CHECK.isTrue("isAllowed", x.isAllowed(1));
        x.set(0, 60);
        CHECK.equal("divisions", 3, x.divisions());
        x.undo();
        CHECK.equal("worthWith", 107, x.worthWith(0, true));
        x.set(3, 30);
        CHECK.equal("worthWith", 137, x.worthWith(0, true));
        x.undo();
        CHECK.equal("priceFor", 66, x.priceFor(4));
        x.set(0, 60);
        CHECK.raises("priceFor", Samples.ELEMENT, () -> x.priceFor(4));
        x.undo();
        CHECK.equal("worth", 147, x.worth());
        x.removeSegment(4);
        CHECK.equal("worth: 60, and 60 for the change at 2 then", 80, x.worth());
    }

    private static void change() {
        ChapterBuilder x = Check.show(Samples.HARBOUR);
        changes(x, 60, 100, 67, 100);
        x.set(2, 1);
        changes(x, 34, 100, 34, 100);
        // all segments up to the boundary against all behind it: 1 + 1 of 2 + 1 + 2 + 3 + 1, and so on
        x.set(2, 5);
        changes(x, 78, 100, 78, 100);
        for (int wrong : new int[] {-1, 4, Integer.MIN_VALUE, Integer.MAX_VALUE}) {
            CHECK.raises("change " + wrong, Samples.INDEX, () -> x.change(wrong));
        }
        changes(Check.show("seg 1 1 a b;seg 1 1 b a;"), 0);
        CHECK.raises("one segment", Samples.INDEX, () -> Check.show("seg 1 1 a;").change(0));
        CHECK.raises("no segment", Samples.INDEX, () -> new ChapterBuilder().change(0));
        ChapterBuilder y = Check.show("seg 1 1 a b;seg 1 1 a;");
        changes(y, 50);
        y.addWord(1, 1);
        changes(y, 0);
    }

    private static void best() {
        ChapterBuilder x = Check.show(Samples.HARBOUR);
        CHECK.equal("chapters", 2, x.chapters());
        CHECK.equal("worth", 60, x.worth());
        x.set(0, 40);
        CHECK.equal("chapters of 40 seconds", 4, x.chapters());
        CHECK.equal("worth with 40 seconds", 147, x.worth());
        x.set(3, 100);
        CHECK.equal("a dear cut", 1, x.chapters());
        CHECK.equal("no cut, no worth", 0, x.worth());
        // 120 seconds at most: {1, 3} leaves 70, 110 and 45 seconds, with two changes of 100
        x.set(1, 120);
        CHECK.equal("cuts that must be", 3, x.chapters());
        CHECK.equal("worth 0", 0, x.worth());
        // 80 seconds at most: {1, 2, 3}
        x.set(1, 80);
        CHECK.equal("chapters of 80 seconds", 4, x.chapters());
        CHECK.equal("a worth below 0", -33, x.worth());
    }

    private static void none() {
        ChapterBuilder x = new ChapterBuilder();
        CHECK.equal("no segments", -1, x.chapters());
        CHECK.raises("worth", Samples.ELEMENT, () -> x.worth());
        CHECK.raises("chapter", Samples.ELEMENT, () -> x.chapter(-1, 9));
        CHECK.raises("chapterOf", Samples.INDEX, () -> x.chapterOf(0));
        CHECK.equal("divisions", 0, x.divisions());
        ChapterBuilder y = Check.show("set 0 500;" + Samples.HARBOUR);
        CHECK.equal("too short", -1, y.chapters());
        CHECK.raises("worth", Samples.ELEMENT, () -> y.worth());
        CHECK.raises("chapter", Samples.ELEMENT, () -> y.chapter(0, 0));
        CHECK.equal("chapterOf", -1, y.chapterOf(4));
        CHECK.raises("chapterOf 5", Samples.INDEX, () -> y.chapterOf(5));
        y.set(0, 60);
        y.set(1, 59);
        CHECK.equal("least above most", -1, y.chapters());
        CHECK.equal("least above most", 0, y.divisions());
    }

    private static void bounds() {
        ChapterBuilder x = Check.show("set 0 70;set 1 155;" + Samples.HARBOUR);
        CHECK.equal("exactly least and most", 2, x.chapters());
        x.set(0, 71);
        CHECK.equal("one second too short: {2}", 2, x.chapter(0, 1));
        x.set(0, 70);
        x.set(1, 154);
        CHECK.equal("one second too long: {2}", 2, x.chapter(0, 1));
        ChapterBuilder one = Check.show("set 0 5;set 1 5;seg 5 0 a;");
        CHECK.equal("one segment", 1, one.chapters());
        CHECK.equal("one segment", 0, one.worth());
        CHECK.equal("its chapter", 0, one.chapterOf(0));
        CHECK.equal("its division", 1, one.divisions());
        CHECK.isTrue("its division is allowed", one.isAllowed(0));
        one.setDuration(0, 4);
        CHECK.equal("too short", -1, one.chapters());
        CHECK.equal("no division", 0, one.divisions());
        CHECK.isTrue("no division is allowed", !one.isAllowed(0));
        one.setDuration(0, 6);
        CHECK.equal("too long", -1, one.chapters());
    }

    private static void ties() {
        // every change is 100, and so is the price: the fewest cuts
        ChapterBuilder x = Check.show("set 0 1;set 2 1;set 3 100;seg 9 0 a;seg 9 0 b;seg 9 0 c;seg 9 0 d;");
        CHECK.equal("fewest cuts", 1, x.chapters());
        // at most 18 seconds: {1} is the only one with one cut
        x.set(1, 18);
        CHECK.equal("fewest cuts", 2, x.chapters());
        CHECK.equal("the cut", 1, x.chapter(0, 1));
        // at most 27 seconds: {0}, {1} and {2} are equal
        x.set(1, 27);
        CHECK.equal("the lowest first cut", 0, x.chapter(0, 1));
        // seven segments, at most three each: of {0, 3}, {1, 3}, {1, 4} and more the lowest
        ChapterBuilder y = Check.show("set 0 1;set 1 27;set 2 1;set 3 100;seg 9 0 a;seg 9 0 b;seg 9 0 c;seg 9 0 d;"
                + "seg 9 0 e;seg 9 0 f;seg 9 0 g;");
        CHECK.equal("three chapters", 3, y.chapters());
        CHECK.equal("the lowest first cut", 0, y.chapter(0, 1));
        CHECK.equal("the lowest second cut", 3, y.chapter(1, 1));
        // a segment that must stand alone: {1, 2} and then 3, of 3, 4 and 5
        y.setDuration(2, 27);
        CHECK.equal("a chapter alone", 4, y.chapters());
        CHECK.equal("the lowest third cut", 3, y.chapter(2, 1));
    }

    private static void chapter() {
        ChapterBuilder x = Check.show("slot 120 25 0;" + Samples.SHORT_CHAPTERS);
        int[][] due = {{0, 1, 70, 2, 0}, {2, 2, 50, 2, 70}, {3, 3, 60, 2, 145}, {4, 4, 45, 1, 205}};
        for (int chapter = 0; chapter < 4; chapter++) {
            for (int what = 0; what < 5; what++) {
                CHECK.equal("chapter " + chapter + " " + what, due[chapter][what], x.chapter(chapter, what));
            }
        }
        int[] chapterOf = {0, 0, 1, 2, 3};
        for (int segment = 0; segment < 5; segment++) {
            CHECK.equal("chapterOf " + segment, chapterOf[segment], x.chapterOf(segment));
        }
        for (int wrong : new int[] {-1, 4, Integer.MIN_VALUE, Integer.MAX_VALUE}) {
            CHECK.raises("chapter " + wrong, Samples.INDEX, () -> x.chapter(wrong, 9));
        }
        for (int wrong : new int[] {-1, 5, Integer.MIN_VALUE, Integer.MAX_VALUE}) {
            CHECK.raises("what " + wrong, Samples.ARGUMENT, () -> x.chapter(0, wrong));
            CHECK.raises("chapterOf " + wrong, Samples.INDEX, () -> x.chapterOf(wrong));
        }
    }

    private static void told() {
        ChapterBuilder x = Check.show(Samples.HARBOUR);
        int[] worths = {0, 20, 60, 80, 27, 47, 87, 107, 60};
        for (int mask = 0; mask < worths.length; mask++) {
            CHECK.equal("worthOf " + mask, worths[mask], x.worthOf(mask));
        }
        CHECK.equal("all cuts", 167, x.worthOf(15));
        for (int mask = 0; mask < 16; mask++) {
            boolean due = mask == 0 || mask == 2 || mask == 4;
            CHECK.equal("isAllowed " + mask, due ? 1 : 0, x.isAllowed(mask) ? 1 : 0);
        }
        x.set(3, 100);
        CHECK.equal("below 0", -73, x.worthOf(5));
        for (int wrong : new int[] {16, 17, 32, 1 << 30, -1, -16, Integer.MIN_VALUE, Integer.MAX_VALUE}) {
            CHECK.raises("worthOf " + wrong, Samples.ARGUMENT, () -> x.worthOf(wrong));
            CHECK.raises("isAllowed " + wrong, Samples.ARGUMENT, () -> x.isAllowed(wrong) ? 1 : 0);
        }
        x.set(0, 226);
        CHECK.equal("all is too short", 0, x.isAllowed(0) ? 1 : 0);
        CHECK.equal("a worth without leave", 0, x.worthOf(0));
        ChapterBuilder empty = new ChapterBuilder();
        CHECK.equal("worthOf without segments", 0, empty.worthOf(0));
        CHECK.isTrue("isAllowed without segments", !empty.isAllowed(0));
        CHECK.raises("worthOf 1 without segments", Samples.ARGUMENT, () -> empty.worthOf(1));
        CHECK.raises("isAllowed 1 without segments", Samples.ARGUMENT, () -> empty.isAllowed(1) ? 1 : 0);
        CHECK.raises("worthOf 1 with one segment", Samples.ARGUMENT, () -> Check.show("seg 1 1 a;").worthOf(1));
    }

    private static void divisions() {
        ChapterBuilder x = Check.show(Samples.HARBOUR);
        CHECK.equal("divisions", 3, x.divisions());
        x.set(0, 40);
        CHECK.equal("divisions of 40 seconds", 12, x.divisions());
        x.set(0, 1);
        CHECK.equal("all divisions", 16, x.divisions());
        x.set(1, 59);
        CHECK.equal("a segment is too long", 0, x.divisions());
        CHECK.equal("32 segments", 1L << 31, Check.show("set 0 1;" + "seg 1 0 a;".repeat(32)).divisions());
    }

    private static void worthWith() {
        ChapterBuilder x = Check.show(Samples.HARBOUR);
        CHECK.equal("with 1", 60, x.worthWith(1, true));
        CHECK.equal("without 1", 27, x.worthWith(1, false));
        CHECK.equal("with 2", 27, x.worthWith(2, true));
        CHECK.equal("without 2", 60, x.worthWith(2, false));
        CHECK.equal("without 0", 60, x.worthWith(0, false));
        CHECK.raises("with 0", Samples.ELEMENT, () -> x.worthWith(0, true));
        CHECK.raises("with 3", Samples.ELEMENT, () -> x.worthWith(3, true));
        CHECK.equal("the best one stays", 60, x.worth());
        CHECK.equal("the best one stays", 2, x.chapterOf(4) + 1);
        x.set(0, 40);
        CHECK.equal("with 0: {0, 2, 3}", 107, x.worthWith(0, true));
        CHECK.equal("without 3: {1, 2}", 87, x.worthWith(3, false));
        x.set(1, 109);
        CHECK.raises("without 2 there are 110 seconds", Samples.ELEMENT, () -> x.worthWith(2, false));
        x.set(1, 110);
        CHECK.equal("110 are allowed: {1, 3}", 120, x.worthWith(2, false));
        for (int wrong : new int[] {-1, 4, Integer.MIN_VALUE, Integer.MAX_VALUE}) {
            CHECK.raises("worthWith " + wrong, Samples.INDEX, () -> x.worthWith(wrong, true));
        }
        ChapterBuilder none = Check.show("set 0 999;" + Samples.HARBOUR);
        CHECK.raises("no boundary first", Samples.INDEX, () -> none.worthWith(4, false));
        CHECK.raises("no division", Samples.ELEMENT, () -> none.worthWith(0, false));
        CHECK.raises("no segments", Samples.INDEX, () -> new ChapterBuilder().worthWith(0, false));
    }

    private static void priceFor() {
        ChapterBuilder x = Check.show(Samples.HARBOUR);
        CHECK.equal("1 chapter", 100, x.priceFor(1));
        CHECK.equal("2 chapters", 99, x.priceFor(2));
        CHECK.raises("3 chapters", Samples.ELEMENT, () -> x.priceFor(3));
        CHECK.equal("nothing changes", 40, x.setting(3));
        CHECK.equal("nothing changes", 60, x.worth());
        x.set(0, 40);
        x.set(3, 100);
        CHECK.equal("4 chapters", 66, x.priceFor(4));
        CHECK.equal("3 chapters", 99, x.priceFor(3));
        CHECK.raises("5 chapters", Samples.ELEMENT, () -> x.priceFor(5));
        CHECK.raises("32 chapters", Samples.ELEMENT, () -> x.priceFor(32));
        CHECK.equal("nothing changes", 1, x.chapters());
        for (int wrong : new int[] {0, -1, 33, Integer.MIN_VALUE, Integer.MAX_VALUE}) {
            CHECK.raises("priceFor " + wrong, Samples.ARGUMENT, () -> x.priceFor(wrong));
        }
        // even the price 0 makes a change of 0 worth no cut
        ChapterBuilder low = Check.show("set 0 1;seg 9 0 a a a;seg 9 0 a a a;");
        CHECK.raises("a change of 0 is worth no cut", Samples.ELEMENT, () -> low.priceFor(2));
        low.set(1, 9);
        CHECK.equal("a cut that must be", 100, low.priceFor(2));
        // {1} is worth 67 - p, and {0, 2} 68 - 2p: only the price 0 makes it the best
        ChapterBuilder zero = Check.show("set 0 20;set 1 40;set 2 1;seg 20 0 c b a;seg 10 0 a c;seg 10 0 b a;"
                + "seg 20 0 a b b;");
        CHECK.equal("3 chapters for nothing", 0, zero.priceFor(3));
        CHECK.equal("2 chapters must be", 100, zero.priceFor(2));
        CHECK.raises("no segments", Samples.ELEMENT, () -> new ChapterBuilder().priceFor(1));
        CHECK.raises("no segments, wrong number", Samples.ARGUMENT, () -> new ChapterBuilder().priceFor(0));
        ChapterBuilder all = Check.show("set 0 1;set 2 1;" + "seg 9 0 a;seg 9 0 b;".repeat(16));
        CHECK.equal("32 chapters of 32", 99, all.priceFor(32));
    }
}
