/** The cases of "What it is" and of 1 TRANSCRIPT. */
final class TranscriptCases {
    private TranscriptCases() {
    }

    static void addTo(Sentences s) {
        s.section("What it is");
        whatItIs(s);
        s.section("1. TRANSCRIPT");
        segments(s);
        words(s);
        boundaries(s);
        times(s);
        settings(s);
    }

    private static void whatItIs(Sentences s) {
        s.hold("A builder of podcast chapters: a transcript of segments with words and pauses", c -> {
            ChapterBuilder x = Check.show("slot 120 25 0;" + Samples.SHORT_CHAPTERS);
            c.same("chapters", "0 sea-boat;70 market-tea;145 tea-market;205 storm;", Cases.written(x));
        });
        s.hold("An object is used for at most 512 calls after it has been made", c -> {
            ChapterBuilder x = new ChapterBuilder();
            x.append(0x73656720, 0x31203120, 0x613b2020, 0x20202020, 0x20202020); // seg 1 1 a;
            x.load(20);
            for (int call = 3; call <= 511; call++) {
                c.equal("call " + call, call == 3 ? 1 : call - 1, x.setDuration(0, call));
            }
            c.equal("call 512", 511, x.segment(0, 0));
            ChapterBuilder y = new ChapterBuilder();
            for (int call = 1; call <= 511; call++) {
                y.set(5, call);
            }
            c.equal("call 512 undoes one of eight changes", 7, y.undo());
        });
    }

    private static void segments(Sentences s) {
        s.hold("A show has at most 32 segments", c -> {
            Cases.fine(c, "seg 1 0 a;".repeat(31), 31);
            Cases.fine(c, "seg 1 0 a;".repeat(32), 32);
            Cases.error(c, "seg 1 0 a;".repeat(33), -4, 320);
        });
        s.hold("numbered from 0 in their order", c -> {
            ChapterBuilder x = Check.show("seg 11 0 a;seg 22 0 a;seg 33 0 a;");
            c.answers("segment", n -> x.segment(n, 0), 0, 11, 1, 22, 2, 33);
            c.raisesAll("segment", Samples.INDEX, n -> x.segment(n, 0), Check.beside(0, 2));
        });
        s.hold("A segment has a duration of 1 to 999 seconds",
                c -> Cases.numberInText(c, "seg ", " 0 a;", 1, 999, x -> x.segment(0, 0)));
        s.hold("a pause of 0 to 99 behind it",
                c -> Cases.numberInText(c, "seg 1 ", " a;", 0, 99, x -> x.segment(0, 1)));
        s.hold("(tenths of a second; it takes no time of its own)", c -> {
            ChapterBuilder x = Check.show("seg 10 99 a;seg 10 99 b;seg 10 99 c;");
            c.answers("speaking time", n -> x.segment(n, 3), 0, 0, 1, 10, 2, 20);
            c.answers("real time", n -> x.segment(n, 4), 0, 0, 1, 10, 2, 20);
            c.answers("segmentAt", n -> x.segmentAt(n), 9, 0, 10, 1, 29, 2, 30, -1);
            c.equal("the show", 30, x.count(3));
        });
        s.hold("and 1 to 8 words", c -> {
            Cases.error(c, "seg 1 0;", -2, 7);
            Cases.fine(c, "seg 1 0 a;", 1);
            Cases.fine(c, "seg 1 0 a b c d e f g h;", 1);
            Cases.error(c, "seg 1 0 a b c d e f g h i;", -4, 24);
            // the same word again counts as a word, too
            Cases.fine(c, "seg 1 0" + " a".repeat(8) + ";", 1);
            Cases.error(c, "seg 1 0" + " a".repeat(9) + ";", -4, 24);
        });
    }

    private static void words(Sentences s) {
        s.hold("A word is written in 1 to 8 letters", c -> {
            Cases.error(c, "seg 1 0 ;", -2, 8);
            ChapterBuilder x = Check.show("seg 1 0 z zzzzzzzz;");
            c.equal("1 letter", 0, x.find(26));
            c.equal("8 letters", 1, x.find(Check.code("zzzzzzzz")));
            Cases.error(c, "seg 1 0 zzzzzzzzz;", -2, 8);
        });
        s.hold("the different words of a show are numbered from 0 in the order in which they were first mentioned", c -> {
            ChapterBuilder x = Check.show("seg 1 0 b a b;seg 1 0 c a;");
            c.equal("different words", 3, x.count(1));
            c.equal("b", 0, x.find(2));
            c.equal("a", 1, x.find(1));
            c.equal("c", 2, x.find(3));
            c.answers("words of 0", k -> x.wordOf(0, k), 0, 0, 1, 1, 2, 0);
            c.answers("words of 1", k -> x.wordOf(1, k), 0, 2, 1, 1);
            c.raisesAll("uses", Samples.INDEX, w -> x.uses(w, 0, 1), Check.beside(0, 2));
        });
        s.hold("at most 24", c -> {
            ChapterBuilder x = Check.show(Samples.LETTERS);
            c.equal("different words", 24, x.count(1));
            c.equal("the last one", 23, x.find(24));
            c.equal("the last one in its segment", 23, x.wordOf(2, 7));
            Cases.fine(c, Samples.LETTERS + "seg 1 0 x a;", 4);
            Cases.error(c, Samples.LETTERS + "seg 1 0 y;", -4, Samples.LETTERS.length() + 8);
        });
    }

    private static void boundaries(Sentences s) {
        s.hold("The boundary k (0 to the number of segments minus 2)", c -> {
            ChapterBuilder x = Check.show(Samples.HARBOUR);
            c.answers("change", n -> x.change(n), 0, 60, 3, 100);
            c.raisesAll("change", Samples.INDEX, n -> x.change(n), Check.beside(0, 3));
            ChapterBuilder full = Cases.turns(32, 9, "");
            c.answers("change of 32", n -> full.change(n), 0, 100, 30, 100);
            c.raisesAll("change of 32", Samples.INDEX, n -> full.change(n), Check.beside(0, 30));
            ChapterBuilder two = Check.show("seg 1 0 a;seg 1 0 a;");
            c.answers("change of 2", n -> two.change(n), 0, 0);
            c.raisesAll("change of 2", Samples.INDEX, n -> two.change(n), -1, 1);
            ChapterBuilder one = Check.show("seg 1 0 a;");
            c.raisesAll("change of 1", Samples.INDEX, n -> one.change(n), -1, 0, 1);
            c.raisesAll("change of 0", Samples.INDEX, n -> new ChapterBuilder().change(n), -2, -1, 0, 1);
        });
        s.hold("lies between the segments k and k + 1", c -> {
            ChapterBuilder x = Check.show("set 2 1;seg 1 0 a;seg 1 0 a;seg 1 0 b;");
            c.answers("change", n -> x.change(n), 0, 0, 1, 100);
        });
        s.hold("its pause is the pause of segment k", c -> {
            ChapterBuilder x = Check.show("set 4 9;slot 10 1 999;seg 10 8 a;seg 10 9 b;seg 10 9 c;");
            c.equal("the pause of the last segment is of no boundary", 1, x.count(5));
            c.equal("the place", 1, x.placeOf(0));
            x.setPause(0, 9);
            c.equal("two boundaries", 2, x.count(5));
            c.equal("the place", 0, x.placeOf(0));
        });
    }

    private static void times(Sentences s) {
        s.hold("The speaking time of a boundary is the sum of the durations of the segments 0 to k", c -> {
            ChapterBuilder x = Check.show("slot 40 1 0;set 4 0;" + Samples.HARBOUR);
            int[] times = {40, 70, 120, 180};
            for (int boundary = 0; boundary < 4; boundary++) {
                x.moveSlot(0, times[boundary]);
                c.equal("at " + times[boundary], boundary, x.placeOf(0));
                x.moveSlot(0, times[boundary] - 1);
                c.equal("ahead of " + times[boundary], -1, x.placeOf(0));
                x.moveSlot(0, times[boundary] + 1);
                c.equal("behind " + times[boundary], -1, x.placeOf(0));
            }
            x.moveSlot(0, 225);
            c.equal("the end of the show is no boundary", -1, x.placeOf(0));
            x.moveSlot(0, 0);
            c.equal("its begin is none", -1, x.placeOf(0));
        });
        s.hold("that of a segment is the sum of the durations of all segments ahead of it", c -> {
            ChapterBuilder x = Cases.row(32, 999, "");
            c.answers("speaking time", n -> x.segment(n, 3), 0, 0, 1, 999, 31, 30969);
            ChapterBuilder one = Cases.row(1, 1, "");
            c.equal("the only segment", 0, one.segment(0, 3));
        });
        s.hold("The speaking time of the show is the sum of all durations", c -> {
            c.equal("no segments", 0, new ChapterBuilder().count(3));
            c.equal("one of one second", 1, Cases.row(1, 1, "").count(3));
            c.equal("the longest show", 31968, Cases.row(32, 999, "").count(3));
        });
    }

    private static void settings(Sentences s) {
        s.hold("There are 6 settings, numbered from 0", c -> {
            ChapterBuilder x = new ChapterBuilder();
            c.answers("setting", n -> x.setting(n), 0, 60, 1, 600, 2, 2, 3, 40, 4, 5, 5, 30);
            c.raisesAll("setting", Samples.INDEX, n -> x.setting(n), Check.beside(0, 5));
            c.raisesAll("set", Samples.INDEX, n -> x.set(n, 1), Check.beside(0, 5));
            Cases.fine(c, "set 0 1;", 0);
            Cases.fine(c, "set 5 1;", 0);
            Cases.error(c, "set 6 1;", -3, 4);
        });
        s.hold("0 least: the least duration of a chapter, 1 to 9999 seconds, at first 60.", c -> {
            setting(c, 0, 1, 9999, 60);
            c.equal("59 seconds", -1, Cases.row(1, 59, "").chapters());
            c.equal("60 seconds", 1, Cases.row(1, 60, "").chapters());
        });
        s.hold("1 most: the greatest duration of a chapter, 1 to 9999, at first 600.", c -> {
            setting(c, 1, 1, 9999, 600);
            c.equal("601 seconds", -1, Cases.row(1, 601, "").chapters());
            c.equal("600 seconds", 1, Cases.row(1, 600, "").chapters());
        });
        s.hold("2 window: how many segments are compared on each side, 1 to 5, at first 2.", c -> {
            setting(c, 2, 1, 5, 2);
            // boundary 4 lies between b and d
            ChapterBuilder x = Check.show("seg 9 0 c;seg 9 0 e;seg 9 0 e;seg 9 0 a;seg 9 0 b;seg 9 0 d;seg 9 0 a;");
            c.equal("two segments: 1 of a, b and d", 67, x.change(4));
            x.set(2, 1);
            c.equal("one segment: nothing of b and d", 100, x.change(4));
            x.set(2, 5);
            c.equal("five segments: 1 of a, b, c, d, e and e", 84, x.change(4));
        });
        s.hold("3 price: what a cut costs, 0 to 100, at first 40.", c -> {
            setting(c, 3, 0, 100, 40);
            ChapterBuilder x = Cases.turns(2, 9, "");
            c.equal("40", 60, x.worthOf(1));
            x.set(3, 0);
            c.equal("0", 100, x.worthOf(1));
            x.set(3, 100);
            c.equal("100", 0, x.worthOf(1));
        });
        s.hold("4 pause: the least pause for a slot, 0 to 99, at first 5.", c -> {
            setting(c, 4, 0, 99, 5);
            ChapterBuilder x = Check.show("slot 9 1 0;seg 9 4 a;seg 9 0 b;");
            c.equal("4 is too short", -1, x.placeOf(0));
            x.setPause(0, 5);
            c.equal("5 is long enough", 0, x.placeOf(0));
            x.set(4, 99);
            c.equal("5 is too short for 99", -1, x.placeOf(0));
            x.setPause(0, 99);
            c.equal("99 is long enough", 0, x.placeOf(0));
            x.setPause(0, 0);
            x.set(4, 0);
            c.equal("0 is long enough for 0", 0, x.placeOf(0));
        });
        s.hold("5 apart: the least speaking time between two slots, 0 to 9999, at first 30.", c -> {
            setting(c, 5, 0, 9999, 30);
            ChapterBuilder x = Check.show("slot 9 1 0;slot 38 1 0;seg 9 9 a;seg 29 9 b;seg 9 9 c;");
            c.equal("29 seconds", -1, x.placementCost());
            x.setDuration(1, 30);
            x.moveSlot(1, 39);
            c.equal("30 seconds", 40, x.placementCost());
        });
    }

    private static void setting(Check c, int setting, int lowest, int highest, int first) {
        ChapterBuilder x = new ChapterBuilder();
        c.equal("at first", first, x.setting(setting));
        Cases.taken(c, "set " + setting, lowest, highest, value -> x.set(setting, value));
        c.raisesAll("set " + setting, Samples.ARGUMENT, value -> x.set(setting, value),
                Check.beside(lowest, highest));
        c.equal("the highest stays", highest, x.setting(setting));
        Cases.numberInText(c, "set " + setting + " ", ";", lowest, highest, y -> y.setting(setting));
    }
}
