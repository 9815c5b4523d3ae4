/** The cases of the promises 8 to 17: segments and words. */
final class SegmentCases {
    private SegmentCases() {
    }

    static void addTo(Sentences s) {
        segment(s);
        wordOf(s);
        find(s);
        uses(s);
        setDuration(s);
        setPause(s);
        addWord(s);
        removeSegment(s);
        moveSegment(s);
        segmentAt(s);
    }

    private static void segment(Sentences s) {
        s.section("Promise 8");
        s.hold("Returns a number of a segment.", c -> {
            ChapterBuilder x = Check.show("slot 120 25 0;" + Samples.SHORT_CHAPTERS);
            int[][] due = {{40, 9, 3, 0, 0}, {30, 4, 2, 40, 40}, {50, 9, 2, 70, 70}, {60, 9, 3, 120, 145},
                {45, 7, 1, 180, 205}};
            for (int segment = 0; segment < 5; segment++) {
                for (int what = 0; what < 5; what++) {
                    c.equal("segment " + segment + " " + what, due[segment][what], x.segment(segment, what));
                }
            }
        }).and("Returns the requested number.");
        s.hold("`segment`: number of a segment", c -> {
            ChapterBuilder x = Cases.row(32, 9, "");
            c.answers("the first and the last of 32", n -> x.segment(n, 3), 0, 0, 31, 279);
        });
        s.hold("0: its duration", c -> {
            ChapterBuilder x = Check.show("seg 1 5 a;seg 999 5 a;");
            c.answers("duration", n -> x.segment(n, 0), 0, 1, 1, 999);
        });
        s.hold("1: its pause", c -> {
            ChapterBuilder x = Check.show("seg 5 0 a;seg 5 99 a;");
            c.answers("pause", n -> x.segment(n, 1), 0, 0, 1, 99);
        });
        s.hold("2: its number of words", c -> {
            ChapterBuilder x = Check.show("seg 5 0 a;seg 5 9 a b a b a b a b;");
            c.answers("words", n -> x.segment(n, 2), 0, 1, 1, 8);
        });
        s.hold("3: its speaking time", c -> {
            ChapterBuilder x = Cases.row(32, 999, "slot 999 300 0;");
            c.answers("speaking time", n -> x.segment(n, 3), 0, 0, 1, 999, 31, 30969);
        });
        s.hold("4: its real time", c -> {
            ChapterBuilder x = Cases.row(32, 999, "slot 999 300 0;");
            c.answers("real time", n -> x.segment(n, 4), 0, 0, 1, 1299, 31, 31269);
            x.moveSlot(0, 1000);
            c.answers("no placement", n -> x.segment(n, 4), 0, 0, 1, 999, 31, 30969);
        });
        s.hold("Throws `IndexOutOfBoundsException` if the segment does not exist", c -> {
            ChapterBuilder x = Check.show(Samples.HARBOUR);
            for (int what = 0; what <= 4; what++) {
                int w = what;
                c.raisesAll("segment, " + what, Samples.INDEX, n -> x.segment(n, w), Check.beside(0, 4));
            }
            c.raisesAll("of none", Samples.INDEX, n -> new ChapterBuilder().segment(n, 0), -1, 0);
            c.raisesAll("of 32", Samples.INDEX, n -> Cases.row(32, 9, "").segment(n, 0), -1, 32);
        });
        s.hold("Throws `IllegalArgumentException` for any other what", c -> {
            ChapterBuilder x = Check.show(Samples.HARBOUR);
            c.raisesAll("what", Samples.ARGUMENT, what -> x.segment(4, what), Check.beside(0, 4));
        });
    }

    private static void wordOf(Sentences s) {
        s.section("Promise 9");
        ChapterBuilder x = Check.show(Samples.HARBOUR);
        s.hold("Returns a word of a segment.", c -> {
            c.answers("of 0", k -> x.wordOf(0, k), 0, 0, 1, 1, 2, 0);
            c.answers("of 3", k -> x.wordOf(3, k), 0, 2, 1, 3, 2, 3);
        });
        s.hold("`segment`: number of a segment", c -> {
            c.answers("the first and the last one", n -> x.wordOf(n, 0), 0, 0, 4, 4);
            ChapterBuilder full = Check.show("seg 9 0 a;".repeat(31) + "seg 9 0 b;");
            c.answers("of 32", n -> full.wordOf(n, 0), 0, 0, 30, 0, 31, 1);
        });
        s.hold("`k`: 0 for its first word", c -> {
            ChapterBuilder full = Check.show("seg 9 0 h g f e d c b a;");
            c.answers("of 8", k -> full.wordOf(0, k), 0, 0, 7, 7);
        });
        s.hold("Returns the number of the word.", c -> {
            ChapterBuilder full = Check.show(Samples.LETTERS);
            c.equal("the first of 24", 0, full.wordOf(0, 0));
            c.equal("the last of 24", 23, full.wordOf(2, 7));
        });
        s.hold("Throws `IndexOutOfBoundsException` if the segment or the word does not exist", c -> {
            c.raisesAll("segment", Samples.INDEX, n -> x.wordOf(n, 0), Check.beside(0, 4));
            c.raisesAll("word of 3", Samples.INDEX, k -> x.wordOf(0, k), Check.beside(0, 2));
            c.raisesAll("word of 1", Samples.INDEX, k -> x.wordOf(4, k), Check.beside(0, 0));
            ChapterBuilder full = Check.show("seg 9 0 h g f e d c b a;seg 9 0 a;");
            c.raisesAll("word of 8", Samples.INDEX, k -> full.wordOf(0, k), Check.beside(0, 7));
            c.raisesAll("no segments", Samples.INDEX, n -> new ChapterBuilder().wordOf(n, 0), -1, 0);
        });
    }

    private static void find(Sentences s) {
        s.section("Promise 10");
        s.hold("Finds a word.", c -> {
            ChapterBuilder x = Check.show(Samples.HARBOUR);
            c.equal("sea", 0, x.find(Check.code("sea")));
            c.equal("storm", 4, x.find(Check.code("storm")));
            x.removeSegment(4);
            c.equal("a word that stands nowhere", 4, x.find(Check.code("storm")));
        });
        s.hold("`name`: the letters as numbers 1 to 26, in groups of 5 bits, the last letter in the lowest group", c -> {
            ChapterBuilder x = Check.show("seg 9 0 a z ab zzzzzzzz aaaaaaaa ba;");
            c.equal("a", 0, x.find(1));
            c.equal("z", 1, x.find(26));
            c.equal("ab", 2, x.find(34));
            c.equal("ba", 5, x.find(65));
            c.equal("8 times z", 3, x.find(((1L << 40) - 1) / 31 * 26));
            c.equal("8 times a", 4, x.find(((1L << 40) - 1) / 31));
        });
        s.hold("Returns its number; NONE if there is none.", c -> {
            ChapterBuilder x = Check.show(Samples.HARBOUR);
            long sea = Check.code("sea");
            long[] none = {0, -1, Long.MIN_VALUE, Long.MAX_VALUE, 27, 31, Check.code("seas"), Check.code("se"),
                Check.code("ea"), sea << 5, 1L << 15 | sea, 1L << 32 | sea, 1L << 40 | sea, 1L << 63 | sea, -sea,
                sea + (1L << 32)};
            for (long name : none) {
                c.equal("find " + name, -1, x.find(name));
            }
            c.equal("no words", -1, new ChapterBuilder().find(0));
            c.equal("no words", -1, new ChapterBuilder().find(1));
            Check.loadText(x, "seg 1 1 a;");
            c.equal("a word of an earlier show", -1, x.find(sea));
            c.equal("the last of 24", 23, Check.show(Samples.LETTERS).find(24));
            c.equal("none of 24", -1, Check.show(Samples.LETTERS).find(25));
        });
    }

    private static void uses(Sentences s) {
        s.section("Promise 11");
        ChapterBuilder x = Check.show(Samples.HARBOUR);
        s.hold("Counts how often a word stands in segments that follow each other.", c -> {
            c.equal("sea in 0 to 4", 3, x.uses(0, 0, 4));
            c.equal("sea in 1 to 4", 1, x.uses(0, 1, 4));
            c.equal("tea in 0 to 2", 1, x.uses(3, 0, 2));
            c.equal("tea in 2 to 3", 3, x.uses(3, 2, 3));
        });
        s.hold("`word`: number of a word", c -> {
            ChapterBuilder full = Check.show(Samples.LETTERS);
            c.answers("the first and the last of 24", w -> full.uses(w, 0, 2), 0, 1, 23, 1);
        });
        s.hold("`from`: the first segment", c -> c.answers("storm from", n -> x.uses(4, n, 4), 0, 1, 4, 1));
        s.hold("`to`: the last segment, not below from", c -> {
            c.answers("sea from 0 to", n -> x.uses(0, 0, n), 0, 2, 1, 3, 4, 3);
            c.answers("in one segment", n -> x.uses(0, n, n), 0, 2, 1, 1, 2, 0, 4, 0);
        });
        s.hold("Returns the number of times.", c -> {
            c.equal("256", 256, Check.show("seg 9 0 a a a a a a a a;".repeat(32)).uses(0, 0, 31));
            c.equal("none", 0, x.uses(4, 0, 3));
            ChapterBuilder y = Check.show(Samples.HARBOUR);
            y.removeSegment(4);
            c.equal("a word that stands nowhere", 0, y.uses(4, 0, 3));
        });
        s.hold("Throws `IndexOutOfBoundsException` if the word or a segment does not exist", c -> {
            c.raisesAll("word", Samples.INDEX, n -> x.uses(n, 0, 1), Check.beside(0, 4));
            c.raisesAll("from", Samples.INDEX, n -> x.uses(0, n, 4), Check.beside(0, 4));
            c.raisesAll("to", Samples.INDEX, n -> x.uses(0, 0, n), Check.beside(0, 4));
            c.raises("no segments are left", Samples.INDEX, () -> {
                ChapterBuilder y = Check.show("seg 9 0 a;");
                y.removeSegment(0);
                return y.uses(0, 0, 0);
            });
        });
        s.hold("Throws `IllegalArgumentException` if to is below from", c -> {
            c.raises("by one", Samples.ARGUMENT, () -> x.uses(0, 1, 0));
            c.raises("by one", Samples.ARGUMENT, () -> x.uses(0, 4, 3));
            c.raises("by all", Samples.ARGUMENT, () -> x.uses(0, 4, 0));
        });
    }

    private static void setDuration(Sentences s) {
        s.section("Promise 12");
        s.hold("Changes the duration of a segment.", c -> {
            ChapterBuilder x = Check.show(Samples.HARBOUR);
            x.setDuration(1, 31);
            c.same("the durations", "40 31 50 60 45 ", Cases.durations(x));
            c.equal("those behind it begin later", 71, x.segment(2, 3));
        });
        s.hold("`segment`: number of a segment", c -> {
            ChapterBuilder x = Check.show(Samples.HARBOUR);
            x.setDuration(0, 1);
            x.setDuration(4, 2);
            c.same("the first and the last one", "1 30 50 60 2 ", Cases.durations(x));
        });
        s.hold("`duration`: 1 to 999", c -> {
            ChapterBuilder x = Check.show(Samples.HARBOUR);
            Cases.taken(c, "setDuration", 1, 999, n -> x.setDuration(2, n));
            c.equal("999", 999, x.segment(2, 0));
            x.setDuration(2, 1);
            c.equal("1", 1, x.segment(2, 0));
        });
        s.hold("Returns the previous duration.", c -> {
            ChapterBuilder x = Check.show(Samples.HARBOUR);
            c.equal("50", 50, x.setDuration(2, 999));
            c.equal("999", 999, x.setDuration(2, 1));
            c.equal("1", 1, x.setDuration(2, 1));
        });
        s.hold("Throws `IndexOutOfBoundsException` if the segment does not exist", c -> {
            ChapterBuilder x = Check.show(Samples.HARBOUR);
            c.raisesAll("setDuration", Samples.INDEX, n -> x.setDuration(n, 9), Check.beside(0, 4));
            c.raisesAll("of none", Samples.INDEX, n -> new ChapterBuilder().setDuration(n, 9), -1, 0);
        });
        s.hold("Throws `IllegalArgumentException` if duration is out of range", c -> {
            ChapterBuilder x = Check.show(Samples.HARBOUR);
            c.raisesAll("setDuration to", Samples.ARGUMENT, n -> x.setDuration(2, n), Check.beside(1, 999));
            c.equal("it stays", 50, x.segment(2, 0));
        });
    }

    private static void setPause(Sentences s) {
        s.section("Promise 13");
        s.hold("Changes the pause of a segment.", c -> {
            ChapterBuilder x = Check.show(Samples.HARBOUR);
            x.setPause(1, 5);
            c.answers("pause", n -> x.segment(n, 1), 0, 9, 1, 5, 2, 9, 3, 9, 4, 7);
            c.equal("boundaries", 4, x.count(5));
        });
        s.hold("`segment`: number of a segment", c -> {
            ChapterBuilder x = Check.show(Samples.HARBOUR);
            x.setPause(0, 1);
            x.setPause(4, 2);
            c.answers("the first and the last one", n -> x.segment(n, 1), 0, 1, 1, 4, 3, 9, 4, 2);
        });
        s.hold("`pause`: 0 to 99", c -> {
            ChapterBuilder x = Check.show(Samples.HARBOUR);
            Cases.taken(c, "setPause", 0, 99, n -> x.setPause(2, n));
            c.equal("99", 99, x.segment(2, 1));
            x.setPause(2, 0);
            c.equal("0", 0, x.segment(2, 1));
        });
        s.hold("Returns the previous pause.", c -> {
            ChapterBuilder x = Check.show(Samples.HARBOUR);
            c.equal("9", 9, x.setPause(2, 99));
            c.equal("99", 99, x.setPause(2, 0));
            c.equal("0", 0, x.setPause(2, 0));
        });
        s.hold("Throws `IndexOutOfBoundsException` if the segment does not exist", c -> {
            ChapterBuilder x = Check.show(Samples.HARBOUR);
            c.raisesAll("setPause", Samples.INDEX, n -> x.setPause(n, 9), Check.beside(0, 4));
            c.raisesAll("of none", Samples.INDEX, n -> new ChapterBuilder().setPause(n, 9), -1, 0);
        });
        s.hold("Throws `IllegalArgumentException` if pause is out of range", c -> {
            ChapterBuilder x = Check.show(Samples.HARBOUR);
            c.raisesAll("setPause to", Samples.ARGUMENT, n -> x.setPause(2, n), Check.beside(0, 99));
            c.equal("it stays", 9, x.segment(2, 1));
        });
    }

    private static void addWord(Sentences s) {
        s.section("Promise 14");
        s.hold("Adds a word of the show to the end of a segment.", c -> {
            ChapterBuilder x = Check.show(Samples.HARBOUR);
            x.addWord(1, 4);
            c.answers("its words", k -> x.wordOf(1, k), 0, 0, 1, 1, 2, 4);
            c.equal("the segment ahead keeps its words", 3, x.segment(0, 2));
            c.equal("the segment behind keeps its words", 2, x.wordOf(2, 0));
            x.addWord(1, 4);
            c.equal("the same word again", 4, x.wordOf(1, 3));
        });
        s.hold("`segment`: number of a segment", c -> {
            ChapterBuilder x = Cases.row(32, 9, "");
            c.answers("the first and the last of 32", n -> x.addWord(n, 0), 0, 2, 31, 2);
        });
        s.hold("`word`: number of a word", c -> {
            ChapterBuilder x = Check.show(Samples.LETTERS + "seg 1 0 a;");
            x.addWord(3, 0);
            x.addWord(3, 23);
            c.answers("the first and the last of 24", k -> x.wordOf(3, k), 1, 0, 2, 23);
            x.removeSegment(2);
            c.equal("a word that stands elsewhere no more", 4, x.addWord(2, 16));
        });
        s.hold("Returns the number of words of the segment afterwards.", c -> {
            ChapterBuilder x = Check.show(Samples.HARBOUR);
            for (int size = 2; size <= 8; size++) {
                c.equal("words", size, x.addWord(4, 0));
            }
        });
        s.hold("Throws `IndexOutOfBoundsException` if the segment or the word does not exist", c -> {
            ChapterBuilder x = Check.show(Samples.HARBOUR);
            c.raisesAll("segment", Samples.INDEX, n -> x.addWord(n, 0), Check.beside(0, 4));
            c.raisesAll("word", Samples.INDEX, w -> x.addWord(0, w), Check.beside(0, 4));
            c.raises("no segments", Samples.INDEX, () -> new ChapterBuilder().addWord(0, 0));
            ChapterBuilder full = Check.show(Samples.LETTERS + "seg 1 0 a;");
            c.raisesAll("of 24 words", Samples.INDEX, w -> full.addWord(3, w), Check.beside(0, 23));
        });
        s.hold("Throws `IllegalStateException` if the segment has 8 words", c -> {
            ChapterBuilder x = Check.show("seg 9 0 a b c d e f g;seg 9 0 a;");
            c.equal("the eighth", 8, x.addWord(0, 0));
            c.raises("a ninth", Samples.STATE, () -> x.addWord(0, 0));
            c.equal("8 words", 8, x.segment(0, 2));
            c.equal("the segment behind is as it was", 1, x.segment(1, 2));
            c.equal("it has room", 2, x.addWord(1, 0));
            c.raises("8 from a text", Samples.STATE, () -> Check.show("seg 9 0 a b c d e f g h;").addWord(0, 0));
        });
    }

    private static void removeSegment(Sentences s) {
        s.section("Promise 15");
        s.hold("Removes a segment; those behind it get numbers that are lower by 1.", c -> {
            ChapterBuilder x = Check.show(Samples.HARBOUR);
            x.removeSegment(1);
            c.same("the durations", "40 50 60 45 ", Cases.durations(x));
            c.equal("its words", 2, x.wordOf(1, 0));
            c.raises("the last number is gone", Samples.INDEX, () -> x.segment(4, 0));
        });
        s.hold("The words keep their numbers.", c -> {
            ChapterBuilder x = Check.show(Samples.HARBOUR);
            x.removeSegment(0);
            x.removeSegment(0);
            c.equal("sea", 0, x.find(Check.code("sea")));
            c.equal("market", 2, x.find(Check.code("market")));
            c.equal("market", 2, x.wordOf(0, 0));
            c.equal("different words", 5, x.count(1));
            c.equal("sea can be added again", 3, x.addWord(0, 0));
        });
        s.hold("`segment`: number of a segment", c -> {
            ChapterBuilder x = Check.show(Samples.HARBOUR);
            x.removeSegment(4);
            c.same("without the last one", "40 30 50 60 ", Cases.durations(x));
            x.removeSegment(0);
            c.same("without the first one", "30 50 60 ", Cases.durations(x));
            ChapterBuilder full = Cases.row(32, 9, "");
            c.equal("the last of 32", 31, full.removeSegment(31));
            c.equal("the first of 31", 30, full.removeSegment(0));
        });
        s.hold("Returns the number of segments afterwards.", c -> {
            ChapterBuilder x = Cases.row(32, 9, "");
            for (int left = 31; left >= 0; left--) {
                c.equal("left", left, x.removeSegment(left / 2));
            }
        });
        s.hold("Throws `IndexOutOfBoundsException` if the segment does not exist", c -> {
            ChapterBuilder x = Check.show(Samples.HARBOUR);
            c.raisesAll("removeSegment", Samples.INDEX, n -> x.removeSegment(n), Check.beside(0, 4));
            x.removeSegment(4);
            c.raises("the one that was removed", Samples.INDEX, () -> x.removeSegment(4));
            c.raisesAll("of none", Samples.INDEX, n -> new ChapterBuilder().removeSegment(n), -1, 0);
        });
    }

    private static void moveSegment(Sentences s) {
        s.section("Promise 16");
        s.hold("Moves a segment to another place; the others keep their order.", c -> {
            ChapterBuilder x = Check.show(Samples.HARBOUR);
            x.moveSegment(1, 3);
            c.same("up", "40 50 60 30 45 ", Cases.durations(x));
            c.equal("its pause goes with it", 4, x.segment(3, 1));
            c.equal("its words go with it", 1, x.wordOf(3, 1));
            x.moveSegment(3, 1);
            c.same("down", "40 30 50 60 45 ", Cases.durations(x));
        });
        s.hold("`segment`: number of a segment", c -> {
            ChapterBuilder x = Check.show(Samples.HARBOUR);
            x.moveSegment(0, 1);
            c.same("the first one", "30 40 50 60 45 ", Cases.durations(x));
            x.moveSegment(4, 3);
            c.same("the last one", "30 40 50 45 60 ", Cases.durations(x));
        });
        s.hold("`to`: the number that it gets", c -> {
            ChapterBuilder x = Check.show(Samples.HARBOUR);
            x.moveSegment(0, 4);
            c.same("to the end", "30 50 60 45 40 ", Cases.durations(x));
            x.moveSegment(4, 0);
            c.same("to the begin", "40 30 50 60 45 ", Cases.durations(x));
            x.moveSegment(2, 2);
            c.same("to its own place", "40 30 50 60 45 ", Cases.durations(x));
            ChapterBuilder full = Check.show("seg 8 0 a;" + "seg 9 0 a;".repeat(31));
            full.moveSegment(0, 31);
            c.answers("to the end of 32", n -> full.segment(n, 0), 0, 9, 30, 9, 31, 8);
            full.moveSegment(31, 0);
            c.answers("to the begin of 32", n -> full.segment(n, 0), 0, 8, 1, 9, 31, 9);
        });
        s.hold("Returns the speaking time that it has then.", c -> {
            ChapterBuilder x = Check.show(Samples.HARBOUR);
            c.equal("at the end", 185, x.moveSegment(0, 4));
            c.equal("at the begin", 0, x.moveSegment(4, 0));
            c.equal("in its own place", 70, x.moveSegment(2, 2));
            c.equal("the only one", 0, Cases.row(1, 9, "").moveSegment(0, 0));
            c.equal("the latest time", 30969, Cases.row(32, 999, "").moveSegment(0, 31));
        });
        s.hold("Throws `IndexOutOfBoundsException` if a segment does not exist", c -> {
            ChapterBuilder x = Check.show(Samples.HARBOUR);
            c.raisesAll("segment", Samples.INDEX, n -> x.moveSegment(n, 0), Check.beside(0, 4));
            c.raisesAll("to", Samples.INDEX, n -> x.moveSegment(0, n), Check.beside(0, 4));
            c.raisesAll("both", Samples.INDEX, n -> x.moveSegment(n, n), Check.beside(0, 4));
            c.same("nothing moved", "40 30 50 60 45 ", Cases.durations(x));
            c.raises("no segments", Samples.INDEX, () -> new ChapterBuilder().moveSegment(0, 0));
        });
    }

    private static void segmentAt(Sentences s) {
        s.section("Promise 17");
        ChapterBuilder x = Check.show(Samples.HARBOUR);
        s.hold("its speaking time is not later, and it ends later",
                c -> c.answers("segmentAt", n -> x.segmentAt(n), 0, 0, 39, 0, 40, 1, 69, 1, 70, 2, 119, 2, 120, 3, 179, 3,
                        180, 4, 224, 4));
        s.hold("`time`: any number", c -> c.answers("segmentAt", n -> x.segmentAt(n), Integer.MIN_VALUE, -1,
                Integer.MAX_VALUE, -1, -40, -1, 1 << 30, -1));
        s.hold("Returns the number of the segment; NONE if there is none.", c -> {
            c.answers("ahead of the show and behind it", n -> x.segmentAt(n), -1, -1, 225, -1, 226, -1);
            c.answers("no segments", n -> new ChapterBuilder().segmentAt(n), -1, -1, 0, -1, 1, -1);
            ChapterBuilder full = Cases.row(32, 999, "");
            c.answers("the longest show", n -> full.segmentAt(n), 30968, 30, 30969, 31, 31967, 31, 31968, -1);
        });
    }
}
