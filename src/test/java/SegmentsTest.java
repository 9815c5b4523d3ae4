/** Promises 8 to 17: segments and words. */
public final class SegmentsTest {
    private static final Check CHECK = new Check();

    public static void main(String[] args) {
        segment();
        words();
        uses();
        durationsAndPauses();
        addWord();
        removeSegment();
        moveSegment();
        segmentAt();
        CHECK.end("SegmentsTest");
    }

    private static String durations(ChapterBuilder x) {
        StringBuilder text = new StringBuilder();
        for (int segment = 0; segment < x.count(0); segment++) {
            text.append(x.segment(segment, 0)).append(' ');
        }
        return text.toString();
    }

    private static void segment() {
        ChapterBuilder x = Check.show("slot 120 25 0;" + Samples.SHORT_CHAPTERS);
        int[][] due = {{40, 9, 3, 0, 0}, {30, 4, 2, 40, 40}, {50, 9, 2, 70, 70}, {60, 9, 3, 120, 145},
            {45, 7, 1, 180, 205}};
        for (int segment = 0; segment < 5; segment++) {
            for (int what = 0; what < 5; what++) {
                CHECK.equal("segment " + segment + " " + what, due[segment][what], x.segment(segment, what));
            }
        }
        for (int wrong : new int[] {-1, 5, Integer.MIN_VALUE, Integer.MAX_VALUE}) {
            CHECK.raises("segment " + wrong, Samples.INDEX, () -> x.segment(wrong, 0));
            CHECK.raises("both wrong " + wrong, Samples.INDEX, () -> x.segment(wrong, 9));
            CHECK.raises("what " + wrong, Samples.ARGUMENT, () -> x.segment(0, wrong));
        }
        x.addSlot(170, 7, 50);
        CHECK.equal("two slots ahead", 180 + 25 + 7, x.segment(4, 4));
        CHECK.equal("one slot ahead", 145, x.segment(3, 4));
        x.set(5, 61);
        CHECK.equal("no placement: the speaking time", 180, x.segment(4, 4));
    }

    private static void words() {
        ChapterBuilder x = Check.show(Samples.HARBOUR);
        int[][] due = {{0, 1, 0}, {0, 1}, {2, 3}, {2, 3, 3}, {4}};
        for (int segment = 0; segment < 5; segment++) {
            int s = segment;
            for (int k = 0; k < due[s].length; k++) {
                CHECK.equal("word " + s + " " + k, due[s][k], x.wordOf(s, k));
            }
            CHECK.raises("word behind the last " + s, Samples.INDEX, () -> x.wordOf(s, due[s].length));
            CHECK.raises("word -1 of " + s, Samples.INDEX, () -> x.wordOf(s, -1));
        }
        CHECK.raises("segment 5", Samples.INDEX, () -> x.wordOf(5, 0));
        CHECK.raises("segment -1", Samples.INDEX, () -> x.wordOf(-1, 0));
        String[] names = {"sea", "boat", "market", "tea", "storm"};
        for (int word = 0; word < 5; word++) {
            CHECK.equal("find " + names[word], word, x.find(Check.code(names[word])));
        }
        CHECK.equal("find sea by its number", 0, x.find(19L * 1024 + 5 * 32 + 1));
        CHECK.equal("find another", -1, x.find(Check.code("seas")));
        CHECK.equal("find a begin", -1, x.find(Check.code("se")));
        CHECK.equal("find 0", -1, x.find(0));
        CHECK.equal("find -1", -1, x.find(-1));
        CHECK.equal("more than 8 letters", -1, x.find(1L << 40 | Check.code("sea")));
        CHECK.equal("the highest bits count", -1, x.find(1L << 63 | Check.code("sea")));
        x.removeSegment(4);
        CHECK.equal("a word that stands nowhere", 4, x.find(Check.code("storm")));
        ChapterBuilder y = Check.show("seg 1 1 zzzzzzzz abcdefgh;");
        CHECK.equal("8 letters", 1, y.find(Check.code("abcdefgh")));
        CHECK.equal("8 times z", 0, y.find((1L << 40) / 31 * 26));
    }

    private static void uses() {
        ChapterBuilder x = Check.show(Samples.HARBOUR);
        CHECK.equal("sea in 0 to 4", 3, x.uses(0, 0, 4));
        CHECK.equal("sea in 1", 1, x.uses(0, 1, 1));
        CHECK.equal("tea in 2 to 3", 3, x.uses(3, 2, 3));
        CHECK.equal("tea in 0 to 1", 0, x.uses(3, 0, 1));
        CHECK.raises("word 5", Samples.INDEX, () -> x.uses(5, 0, 1));
        CHECK.raises("word -1", Samples.INDEX, () -> x.uses(-1, 0, 1));
        CHECK.raises("from 5", Samples.INDEX, () -> x.uses(0, 5, 4));
        CHECK.raises("from -1", Samples.INDEX, () -> x.uses(0, -1, 4));
        CHECK.raises("to 5", Samples.INDEX, () -> x.uses(0, 0, 5));
        CHECK.raises("to -1 is no segment first", Samples.INDEX, () -> x.uses(0, 0, -1));
        CHECK.raises("to below from", Samples.ARGUMENT, () -> x.uses(0, 4, 3));
    }

    private static void durationsAndPauses() {
        ChapterBuilder x = Check.show(Samples.HARBOUR);
        CHECK.equal("setDuration", 30, x.setDuration(1, 999));
        CHECK.equal("the previous one", 999, x.setDuration(1, 1));
        CHECK.equal("the new one", 1, x.segment(1, 0));
        CHECK.equal("the next begins earlier", 41, x.segment(2, 3));
        CHECK.equal("setPause", 4, x.setPause(1, 99));
        CHECK.equal("the previous pause", 99, x.setPause(1, 0));
        CHECK.equal("the new pause", 0, x.segment(1, 1));
        for (int wrong : new int[] {-1, 5, Integer.MIN_VALUE, Integer.MAX_VALUE}) {
            CHECK.raises("setDuration of " + wrong, Samples.INDEX, () -> x.setDuration(wrong, 0));
            CHECK.raises("setPause of " + wrong, Samples.INDEX, () -> x.setPause(wrong, -1));
        }
        for (int wrong : new int[] {0, -1, 1000, Integer.MIN_VALUE, Integer.MAX_VALUE}) {
            CHECK.raises("setDuration to " + wrong, Samples.ARGUMENT, () -> x.setDuration(0, wrong));
        }
        for (int wrong : new int[] {-1, 100, Integer.MIN_VALUE, Integer.MAX_VALUE}) {
            CHECK.raises("setPause to " + wrong, Samples.ARGUMENT, () -> x.setPause(0, wrong));
        }
        CHECK.equal("nothing changed", 40, x.segment(0, 0));
        CHECK.equal("nothing changed", 9, x.segment(0, 1));
    }

    private static void addWord() {
        ChapterBuilder x = Check.show(Samples.HARBOUR);
        for (int size = 2; size <= 8; size++) {
            CHECK.equal("addWord " + size, size, x.addWord(4, size % 5));
            CHECK.equal("at the end", size % 5, x.wordOf(4, size - 1));
        }
        CHECK.raises("a ninth word", Samples.STATE, () -> x.addWord(4, 0));
        CHECK.raises("no word, before the ninth", Samples.INDEX, () -> x.addWord(4, 5));
        CHECK.raises("word -1", Samples.INDEX, () -> x.addWord(4, -1));
        CHECK.raises("no segment", Samples.INDEX, () -> x.addWord(5, 0));
        CHECK.raises("segment -1", Samples.INDEX, () -> x.addWord(-1, 0));
        CHECK.equal("8 words", 8, x.segment(4, 2));
        CHECK.equal("the others have theirs", 3, x.segment(3, 2));
    }

    private static void removeSegment() {
        ChapterBuilder x = Check.show(Samples.HARBOUR);
        for (int wrong : new int[] {-1, 5, Integer.MIN_VALUE, Integer.MAX_VALUE}) {
            CHECK.raises("removeSegment " + wrong, Samples.INDEX, () -> x.removeSegment(wrong));
        }
        CHECK.equal("remove 1", 4, x.removeSegment(1));
        CHECK.same("durations", "40 50 60 45 ", durations(x));
        CHECK.equal("its pause is gone", 9, x.segment(1, 1));
        CHECK.equal("words keep their numbers", 2, x.wordOf(1, 0));
        CHECK.equal("remove the last", 3, x.removeSegment(3));
        CHECK.equal("remove the first", 2, x.removeSegment(0));
        CHECK.same("durations", "50 60 ", durations(x));
        CHECK.raises("removed", Samples.INDEX, () -> x.segment(2, 0));
        CHECK.equal("1 is left", 1, x.removeSegment(1));
        CHECK.equal("0 are left", 0, x.removeSegment(0));
        CHECK.raises("none is left", Samples.INDEX, () -> x.removeSegment(0));
        CHECK.equal("the words stay", 5, x.count(1));
        CHECK.equal("no chapters", -1, x.chapters());
    }

    private static void moveSegment() {
        ChapterBuilder x = Check.show(Samples.HARBOUR);
        CHECK.equal("up", 50 + 60 + 30, x.moveSegment(0, 3));
        CHECK.same("durations", "30 50 60 40 45 ", durations(x));
        CHECK.equal("its words go with it", 1, x.wordOf(3, 1));
        CHECK.equal("its pause goes with it", 9, x.segment(3, 1));
        CHECK.equal("down", 0, x.moveSegment(4, 0));
        CHECK.same("durations", "45 30 50 60 40 ", durations(x));
        CHECK.equal("to its own place", 75, x.moveSegment(2, 2));
        CHECK.same("durations", "45 30 50 60 40 ", durations(x));
        CHECK.equal("by one", 125, x.moveSegment(3, 2) + 50);
        CHECK.same("durations", "45 30 60 50 40 ", durations(x));
        for (int wrong : new int[] {-1, 5, Integer.MIN_VALUE, Integer.MAX_VALUE}) {
            CHECK.raises("move " + wrong, Samples.INDEX, () -> x.moveSegment(wrong, 0));
            CHECK.raises("move to " + wrong, Samples.INDEX, () -> x.moveSegment(0, wrong));
        }
    }

    private static void segmentAt() {
        ChapterBuilder x = Check.show(Samples.HARBOUR);
        int[][] due = {{0, 0}, {39, 0}, {40, 1}, {69, 1}, {70, 2}, {179, 3}, {180, 4}, {224, 4}, {225, -1}, {-1, -1},
            {Integer.MIN_VALUE, -1}, {Integer.MAX_VALUE, -1}};
        for (int[] row : due) {
            CHECK.equal("segmentAt " + row[0], row[1], x.segmentAt(row[0]));
        }
        CHECK.equal("an empty show", -1, new ChapterBuilder().segmentAt(0));
    }
}
