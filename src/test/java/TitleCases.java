/** The cases of 5 TITLES and of the promises 28 to 32. */
final class TitleCases {
    private TitleCases() {
    }

    static void addTo(Sentences s) {
        described(s);
        chaptersWith(s);
        typical(s);
        likeness(s);
        mark(s);
        title(s);
    }

    /** A show of one chapter. */
    private static ChapterBuilder whole(String segments) {
        return Check.show("set 0 1;set 3 100;" + segments);
    }

    /** A show with a chapter for each of its segments, of 9 seconds. */
    private static ChapterBuilder single(String segments) {
        return Check.show("set 0 9;set 1 9;" + segments);
    }

    private static void titles(Check c, ChapterBuilder x, int chapter, int... due) {
        for (int k = 0; k < 3; k++) {
            c.equal("title " + chapter + " " + k, due[k], x.title(chapter, k));
        }
    }

    private static void described(Sentences s) {
        s.section("5. TITLES");
        s.hold("(the number of chapters in which it stands), rounded down", c -> {
            ChapterBuilder x = single("seg 9 0 a a;seg 9 0 a;seg 9 0 a b;");
            c.equal("2000 / 3", 666, x.mark(0, 0));
            c.equal("1000 / 3", 333, x.mark(1, 0));
            c.equal("1000 / 1", 1000, x.mark(2, 1));
            ChapterBuilder least = single("seg 9 0 a;".repeat(32));
            c.equal("1000 / 32", 31, least.mark(0, 0));
            c.equal("1000 / 32", 31, least.mark(31, 0));
            ChapterBuilder most = whole("seg 9 0 a a a a a a a a;".repeat(32));
            c.equal("256 times in one chapter", 256000, most.mark(0, 0));
        });
        s.hold("The title of a chapter has its words in descending order of their marks", c -> {
            titles(c, whole("seg 9 0 a b b c c c;"), 0, 2, 1, 0);
            titles(c, whole("seg 9 0 a b b;seg 9 0 c c c;"), 0, 2, 1, 0);
            // a word that stands in both chapters has half the mark: 1000, 1000 and 3000 / 2
            ChapterBuilder x = single("seg 9 0 a b c c c;seg 9 0 c;");
            titles(c, x, 0, 2, 0, 1);
            x.addWord(1, 0);
            titles(c, x, 0, 2, 1, 0);
        });
        s.hold("words with the same mark stand in ascending order of their numbers", c -> {
            titles(c, whole("seg 9 0 c b a;"), 0, 0, 1, 2);
            titles(c, whole("seg 9 0 c;seg 9 0 a a b b;"), 0, 1, 2, 0);
            ChapterBuilder x = single("seg 9 0 a b;seg 9 0 b a;");
            titles(c, x, 1, 0, 1, -1);
            // 2000 / 2 and 1000 / 1
            ChapterBuilder y = single("seg 9 0 a;seg 9 0 b a a;");
            titles(c, y, 1, 0, 1, -1);
        });
        s.hold("Only the first 3 words of this order (or all, if there are fewer) belong to the title.", c -> {
            ChapterBuilder four = whole("seg 9 0 a b c d;");
            titles(c, four, 0, 0, 1, 2);
            c.same("four words", "0 a-b-c;", Cases.written(four));
            c.same("three words", "0 c-a-b;", Cases.written(whole("seg 9 0 a b c c;")));
            c.same("two words", "0 a-b;", Cases.written(whole("seg 9 0 a b;")));
            c.same("one word", "0 a;", Cases.written(whole("seg 9 0 a a a;")));
            titles(c, whole(Samples.LETTERS + "seg 9 0 x v x w;"), 0, 23, 21, 22);
        });
    }

    private static void noDivision(Sentences s, Check.Asked call) {
        s.hold("Throws `NoSuchElementException` if there is no best division", c -> {
            c.raises("too short", Samples.ELEMENT, () -> call.answer(0));
            c.raises("no segments", Samples.ELEMENT, () -> call.answer(1));
        });
    }

    private static ChapterBuilder none(int kind) {
        return kind == 0 ? Cases.undivided() : new ChapterBuilder();
    }

    private static void chaptersWith(Sentences s) {
        s.section("Promise 28");
        ChapterBuilder x = Check.show(Samples.SHORT_CHAPTERS);
        s.hold("Counts the chapters of the best division in which a word stands.", c -> {
            c.answers("chaptersWith", w -> x.chaptersWith(w), 0, 1, 1, 1, 2, 2, 3, 2, 4, 1);
            ChapterBuilder y = Check.show(Samples.SHORT_CHAPTERS);
            y.set(3, 100);
            c.equal("two segments of one chapter", 1, y.chaptersWith(3));
        });
        s.hold("`word`: number of a word", c -> {
            ChapterBuilder y = whole(Samples.LETTERS);
            c.answers("the first and the last of 24", w -> y.chaptersWith(w), 0, 1, 23, 1);
            y.removeSegment(2);
            c.answers("words that stand nowhere", w -> y.chaptersWith(w), 16, 0, 23, 0);
        });
        s.hold("Returns the number of chapters.", c -> {
            c.equal("32", 32, single("seg 9 0 a;".repeat(32)).chaptersWith(0));
            c.equal("1", 1, whole("seg 9 0 a;".repeat(32)).chaptersWith(0));
        });
        noDivision(s, kind -> none(kind).chaptersWith(0));
        s.hold("Throws `IndexOutOfBoundsException` if the word does not exist",
                c -> c.raisesAll("chaptersWith", Samples.INDEX, w -> x.chaptersWith(w), Check.beside(0, 4)));
    }

    private static void typical(Sentences s) {
        s.section("Promise 29");
        ChapterBuilder x = Check.show(Samples.SHORT_CHAPTERS);
        s.hold("the one with the greatest sum of the marks of its words in the chapter", c -> {
            c.answers("typical", n -> x.typical(n), 0, 0, 1, 2, 2, 3, 3, 4);
            // a has 3000, each other 1000: 3000, 4000 and 5000
            c.equal("the last one", 2, whole("seg 9 0 a;seg 9 0 a b;seg 9 0 a d c;").typical(0));
            // the mark of b in chapter 0 counts, not that in chapter 1
            ChapterBuilder y = Check.show("set 1 18;set 0 9;set 3 100;set 2 1;seg 9 0 a b;seg 9 0 a a;"
                    + "seg 18 0 b b b b b b b b;");
            c.equal("two chapters", 2, y.chapters());
            c.equal("3000 and 500, or 6000", 1, y.typical(0));
        });
        s.hold("(a word that stands in it twice counts twice)", c -> {
            // a has 3000, b 4000
            c.equal("twice a, once b", 1, whole("seg 9 0 b;seg 9 0 a a;seg 9 0 b;seg 9 0 b;seg 9 0 b;seg 9 0 a;")
                    .typical(0));
            c.equal("8 times", 1, whole("seg 9 0 a b;seg 9 0 a a a a a a a a;").typical(0));
            c.equal("the only word", 1, whole("seg 9 0 b;seg 9 0 a;seg 9 0 a;").typical(0));
            c.equal("256 words", 0, whole("seg 9 0 a b c d e f g h;".repeat(32)).typical(0));
        });
        s.hold("`chapter`: number of a chapter", c -> {
            ChapterBuilder y = single("seg 9 0 a;".repeat(32));
            c.answers("the first and the last of 32", n -> y.typical(n), 0, 0, 31, 31);
        });
        s.hold("Returns the number of the segment, of several the lowest one.", c -> {
            c.equal("two", 0, whole("seg 9 0 a;seg 9 0 a;").typical(0));
            c.equal("32", 0, whole("seg 9 0 a;".repeat(32)).typical(0));
            c.equal("the last two of three", 1, whole("seg 9 0 a;seg 9 0 a a;seg 9 0 a a;").typical(0));
        });
        noDivision(s, kind -> none(kind).typical(0));
        s.hold("Throws `IndexOutOfBoundsException` if the chapter does not exist",
                c -> c.raisesAll("typical", Samples.INDEX, n -> x.typical(n), Check.beside(0, 3)));
    }

    private static void likeness(Sentences s) {
        s.section("Promise 30");
        ChapterBuilder x = Check.show(Samples.SHORT_CHAPTERS);
        s.hold("as that of a boundary, with the chapters in place of the windows", c -> {
            c.equal("2 of 3: 66.7 rounded down", 66, x.likeness(1, 2));
            ChapterBuilder y = Check.show("set 0 18;set 2 1;set 1 18;seg 9 0 a;seg 9 0 b;seg 9 0 b;seg 9 0 a;");
            c.equal("chapters of two segments each count whole", 100, y.likeness(0, 1));
        });
        s.hold("`one`: number of a chapter", c -> {
            c.answers("with 1", n -> x.likeness(n, 1), 0, 0, 1, 100, 2, 66, 3, 0);
            ChapterBuilder y = single("seg 9 0 a;".repeat(32));
            c.answers("of 32", n -> y.likeness(n, 0), 0, 100, 31, 100);
        });
        s.hold("`other`: number of a chapter", c -> {
            c.answers("of 2", n -> x.likeness(2, n), 0, 0, 1, 66, 2, 100, 3, 0);
            ChapterBuilder y = single("seg 9 0 a;".repeat(32));
            c.answers("of 32", n -> y.likeness(0, n), 0, 100, 31, 100);
        });
        s.hold("Returns 0 to 100.", c -> {
            c.equal("no common word", 0, x.likeness(0, 3));
            c.equal("a chapter with itself", 100, x.likeness(3, 3));
            c.equal("one with the same words", 100, single("seg 9 0 a b;seg 9 0 b a;").likeness(0, 1));
        });
        noDivision(s, kind -> none(kind).likeness(0, 0));
        s.hold("Throws `IndexOutOfBoundsException` if a chapter does not exist", c -> {
            c.raisesAll("one", Samples.INDEX, n -> x.likeness(n, 0), Check.beside(0, 3));
            c.raisesAll("other", Samples.INDEX, n -> x.likeness(0, n), Check.beside(0, 3));
            c.raisesAll("both", Samples.INDEX, n -> x.likeness(n, n), Check.beside(0, 3));
        });
    }

    private static void mark(Sentences s) {
        s.section("Promise 31");
        ChapterBuilder x = Check.show(Samples.SHORT_CHAPTERS);
        s.hold("Returns the mark of a word in a chapter of the best division.", c -> {
            c.answers("in 0", w -> x.mark(0, w), 0, 3000, 1, 2000);
            c.answers("in 2", w -> x.mark(2, w), 2, 500, 3, 1000);
        });
        s.hold("`chapter`: number of a chapter", c -> {
            ChapterBuilder y = single("seg 9 0 a;".repeat(31) + "seg 9 0 a a;");
            c.answers("the first and the last of 32", n -> y.mark(n, 0), 0, 31, 30, 31, 31, 62);
        });
        s.hold("`word`: number of a word", c -> {
            ChapterBuilder y = whole(Samples.LETTERS + "seg 9 0 x;");
            c.answers("the first and the last of 24", w -> y.mark(0, w), 0, 1000, 22, 1000, 23, 2000);
        });
        s.hold("Returns the mark; 0 if the word does not stand in the chapter.", c -> {
            c.answers("storm", n -> x.mark(n, 4), 0, 0, 1, 0, 2, 0, 3, 1000);
            ChapterBuilder y = Check.show(Samples.SHORT_CHAPTERS);
            y.removeSegment(4);
            c.answers("a word that stands in no segment", n -> y.mark(n, 4), 0, 0, 2, 0);
        });
        noDivision(s, kind -> none(kind).mark(0, 0));
        s.hold("Throws `IndexOutOfBoundsException` if the chapter or the word does not exist", c -> {
            c.raisesAll("chapter", Samples.INDEX, n -> x.mark(n, 0), Check.beside(0, 3));
            c.raisesAll("word", Samples.INDEX, w -> x.mark(0, w), Check.beside(0, 4));
        });
    }

    private static void title(Sentences s) {
        s.section("Promise 32");
        ChapterBuilder x = Check.show(Samples.SHORT_CHAPTERS);
        s.hold("Returns a word of the title of a chapter.", c -> {
            titles(c, x, 0, 0, 1, -1);
            titles(c, x, 2, 3, 2, -1);
        });
        s.hold("`chapter`: number of a chapter", c -> {
            ChapterBuilder y = single("seg 9 0 a;".repeat(31) + "seg 9 0 b;");
            c.answers("the first and the last of 32", n -> y.title(n, 0), 0, 0, 30, 0, 31, 1);
        });
        s.hold("`k`: 0 to 2", c -> {
            ChapterBuilder y = whole("seg 9 0 a b c;");
            c.answers("title", k -> y.title(0, k), 0, 0, 1, 1, 2, 2);
        });
        s.hold("Returns the number of the word; NONE if the title has fewer words.", c -> {
            c.answers("one word", k -> x.title(3, k), 0, 4, 1, -1, 2, -1);
            c.answers("two words", k -> x.title(1, k), 0, 2, 1, 3, 2, -1);
        });
        noDivision(s, kind -> none(kind).title(0, 0));
        s.hold("Throws `IndexOutOfBoundsException` if the chapter does not exist, or k is out of range", c -> {
            c.raisesAll("chapter", Samples.INDEX, n -> x.title(n, 0), Check.beside(0, 3));
            c.raisesAll("k", Samples.INDEX, k -> x.title(0, k), Check.beside(0, 2));
            ChapterBuilder y = whole("seg 9 0 a b c d;");
            c.raises("a fourth word is not of the title", Samples.INDEX, () -> y.title(0, 3));
        });
    }
}
