/** Promises 28 to 32: titles. */
public final class TitlesTest {
    private static final Check CHECK = new Check();

    public static void main(String[] args) {
        chaptersWith();
        typical();
        likeness();
        mark();
        title();
        CHECK.end("TitlesTest");
    }

    private static ChapterBuilder none() {
        return Check.show("set 0 500;" + Samples.HARBOUR);
    }

    private static void chaptersWith() {
        ChapterBuilder x = Check.show(Samples.SHORT_CHAPTERS);
        int[] due = {1, 1, 2, 2, 1};
        for (int word = 0; word < 5; word++) {
            CHECK.equal("chaptersWith " + word, due[word], x.chaptersWith(word));
        }
        for (int wrong : new int[] {-1, 5, Integer.MIN_VALUE, Integer.MAX_VALUE}) {
            CHECK.raises("chaptersWith " + wrong, Samples.INDEX, () -> x.chaptersWith(wrong));
            CHECK.raises("no division first " + wrong, Samples.ELEMENT, () -> none().chaptersWith(wrong));
        }
        x.removeSegment(4);
        CHECK.equal("a word that stands nowhere", 0, x.chaptersWith(4));
    }

    private static void typical() {
        ChapterBuilder x = Check.show(Samples.SHORT_CHAPTERS);
        int[] due = {0, 2, 3, 4};
        for (int chapter = 0; chapter < 4; chapter++) {
            CHECK.equal("typical " + chapter, due[chapter], x.typical(chapter));
        }
        for (int wrong : new int[] {-1, 4, Integer.MIN_VALUE, Integer.MAX_VALUE}) {
            CHECK.raises("typical " + wrong, Samples.INDEX, () -> x.typical(wrong));
            CHECK.raises("no division first " + wrong, Samples.ELEMENT, () -> none().typical(wrong));
        }
        // one chapter: a has the mark 5000, b 2000; the sums are 5000, 4000, 10000 and 10000
        ChapterBuilder y = Check.show("set 0 1;set 3 100;seg 9 0 a;seg 9 0 b b;seg 9 0 a a;seg 9 0 a a;");
        CHECK.equal("of several the lowest", 2, y.typical(0));
        y.addWord(1, 1);
        CHECK.equal("b 3000: 9000 is too little", 2, y.typical(0));
        y.addWord(1, 1);
        y.moveSegment(1, 3);
        CHECK.equal("the last segment, too", 3, y.typical(0));
        y.moveSegment(3, 1);
        CHECK.equal("b 4000: a word that stands 4 times counts 4 times", 1, y.typical(0));
    }

    private static void likeness() {
        ChapterBuilder x = Check.show(Samples.SHORT_CHAPTERS);
        int[][] due = {{100, 0, 0, 0}, {0, 100, 66, 0}, {0, 66, 100, 0}, {0, 0, 0, 100}};
        for (int one = 0; one < 4; one++) {
            for (int other = 0; other < 4; other++) {
                CHECK.equal("likeness " + one + " " + other, due[one][other], x.likeness(one, other));
            }
        }
        for (int wrong : new int[] {-1, 4, Integer.MIN_VALUE, Integer.MAX_VALUE}) {
            CHECK.raises("likeness " + wrong, Samples.INDEX, () -> x.likeness(wrong, 0));
            CHECK.raises("likeness with " + wrong, Samples.INDEX, () -> x.likeness(0, wrong));
            CHECK.raises("no division first " + wrong, Samples.ELEMENT, () -> none().likeness(wrong, 0));
        }
    }

    private static void mark() {
        ChapterBuilder x = Check.show(Samples.SHORT_CHAPTERS);
        int[][] due = {{3000, 2000, 0, 0, 0}, {0, 0, 500, 500, 0}, {0, 0, 500, 1000, 0}, {0, 0, 0, 0, 1000}};
        for (int chapter = 0; chapter < 4; chapter++) {
            for (int word = 0; word < 5; word++) {
                CHECK.equal("mark " + chapter + " " + word, due[chapter][word], x.mark(chapter, word));
            }
        }
        for (int wrong : new int[] {-1, 5, Integer.MIN_VALUE, Integer.MAX_VALUE}) {
            CHECK.raises("mark of word " + wrong, Samples.INDEX, () -> x.mark(0, wrong));
            CHECK.raises("mark in " + wrong, Samples.INDEX, () -> x.mark(wrong, 0));
            CHECK.raises("no division first " + wrong, Samples.ELEMENT, () -> none().mark(wrong, 0));
        }
        CHECK.raises("chapter 4", Samples.INDEX, () -> x.mark(4, 0));
        x.removeSegment(4);
        CHECK.equal("a word that stands nowhere", 0, x.mark(0, 4));
        // three chapters with a: 1000 * 2 / 3, rounded down
        ChapterBuilder y = Check.show("set 0 9;set 1 9;seg 9 0 a a;seg 9 0 a;seg 9 0 a b;");
        CHECK.equal("rounded down", 666, y.mark(0, 0));
        CHECK.equal("rounded down", 333, y.mark(1, 0));
    }

    private static void titles(ChapterBuilder x, int chapter, int... due) {
        for (int k = 0; k < 3; k++) {
            CHECK.equal("title " + chapter + " " + k, due[k], x.title(chapter, k));
        }
    }

    private static void title() {
        ChapterBuilder x = Check.show(Samples.SHORT_CHAPTERS);
        titles(x, 0, 0, 1, -1);
        titles(x, 1, 2, 3, -1);
        titles(x, 2, 3, 2, -1);
        titles(x, 3, 4, -1, -1);
        for (int wrong : new int[] {-1, 3, Integer.MIN_VALUE, Integer.MAX_VALUE}) {
            CHECK.raises("k " + wrong, Samples.INDEX, () -> x.title(0, wrong));
        }
        for (int wrong : new int[] {-1, 4, Integer.MIN_VALUE, Integer.MAX_VALUE}) {
            CHECK.raises("chapter " + wrong, Samples.INDEX, () -> x.title(wrong, 0));
            CHECK.raises("no division first " + wrong, Samples.ELEMENT, () -> none().title(0, wrong));
        }
        // c 3000, d 2000, then a and b with 1000: only three words belong to the title
        titles(Check.show("set 0 1;set 3 100;seg 9 0 a b c c c d d;"), 0, 2, 3, 0);
        titles(Check.show("set 0 1;set 3 100;seg 9 0 b a c d e;"), 0, 0, 1, 2);
    }
}
