/** The cases of 2 CHANGES OF TOPIC and of 3 CHAPTERS. */
final class DivisionCases {
    private DivisionCases() {
    }

    static void addTo(Sentences s) {
        s.section("2. CHANGES OF TOPIC");
        windows(s);
        likenesses(s);
        s.section("3. CHAPTERS");
        allowed(s);
        best(s);
        none(s);
    }

    private static void windows(Sentences s) {
        s.hold("the left window has the segments from k - window + 1 to k", c -> {
            ChapterBuilder x = Check.show("seg 9 0 z;seg 9 0 a;seg 9 0 b;seg 9 0 a z;seg 9 0 y;");
            c.equal("2: a of a, b, z, y", 75, x.change(2));
            x.set(2, 1);
            c.equal("1: nothing of b, a, z", 100, x.change(2));
            x.set(2, 3);
            c.equal("3: a and z of a, b, z, y", 50, x.change(2));
        });
        s.hold("the right one those from k + 1 to k + window", c -> {
            ChapterBuilder x = Check.show("seg 9 0 y;seg 9 0 a z;seg 9 0 b;seg 9 0 a;seg 9 0 z;");
            c.equal("2: a of a, b, z, y", 75, x.change(1));
            x.set(2, 1);
            c.equal("1: nothing of b, a, z", 100, x.change(1));
            x.set(2, 3);
            c.equal("3: a and z of a, b, z, y", 50, x.change(1));
        });
        s.hold("as far as they exist", c -> {
            // counts 1 and 5 make a likeness of 20, 4 and 5 one of 80
            ChapterBuilder x = Cases.row(32, 9, "set 2 5;");
            c.answers("change", n -> x.change(n), 0, 80, 1, 60, 2, 40, 3, 20, 4, 0, 15, 0, 26, 0, 27, 20, 28, 40, 29, 60,
                    30, 80);
            ChapterBuilder two = Check.show("set 2 5;seg 9 0 a b;seg 9 0 a;");
            c.equal("two segments", 50, two.change(0));
            ChapterBuilder three = Check.show("set 2 5;seg 9 0 a;seg 9 0 b;seg 9 0 a;");
            c.equal("three segments", 50, three.change(0));
            c.equal("three segments", 50, three.change(1));
        });
    }

    private static void likenesses(Sentences s) {
        s.hold("The count of a word in a window is the number of times that it stands in its segments.", c -> {
            c.equal("3 and 1 in one segment each", 67, Check.show("seg 9 0 a a a;seg 9 0 a;").change(0));
            c.equal("3 in two segments, and 1", 67, Check.show("seg 9 0 a;seg 9 0 a a;seg 9 0 a;").change(1));
            c.equal("8 and 8", 0, Check.show("seg 9 0 a a a a a a a a;seg 9 0 a a a a a a a a;").change(0));
            c.equal("1 and 40", 98, Check.show("set 2 5;seg 9 0 a;" + "seg 9 0 a a a a a a a a;".repeat(5)).change(0));
        });
        s.hold("the sum, over all words, of the lesser one of both counts", c -> {
            ChapterBuilder x = Check.show("set 2 1;" + Samples.LETTERS + "seg 1 0 x a;");
            c.equal("the word 23 of 9", 89, x.change(2));
            x.set(2, 3);
            c.equal("the words 0 and 23 of 24", 92, x.change(2));
        });
        s.hold("(the sum of the greater one of both counts)", c -> {
            c.equal("1 of 2, 1 and 1", 75, Check.show("seg 9 0 a a b;seg 9 0 a c;").change(0));
            c.equal("the other way round", 75, Check.show("seg 9 0 a c;seg 9 0 a a b;").change(0));
            c.equal("2 of 2 and 2", 50, Check.show("seg 9 0 a b b;seg 9 0 a a b;").change(0));
        });
        s.hold("rounded down", c -> {
            c.equal("33.3", 67, Check.show("seg 9 0 a b;seg 9 0 a c;").change(0));
            c.equal("66.7", 34, Check.show("seg 9 0 a b c;seg 9 0 a b;").change(0));
            c.equal("87.5", 13, Check.show("seg 9 0 a b c d e f g h;seg 9 0 a b c d e f g;").change(0));
        });
        s.hold("Its change is 100 minus its likeness.", c -> {
            c.equal("the same words", 0, Check.show("seg 9 0 a b;seg 9 0 b a;").change(0));
            c.equal("no common word", 100, Check.show("seg 9 0 a b;seg 9 0 c d;").change(0));
            c.equal("half of them", 50, Check.show("seg 9 0 a b;seg 9 0 a;").change(0));
        });
    }

    private static void allowed(Sentences s) {
        s.hold("the chapters are the runs of segments between them, numbered from 0", c -> {
            ChapterBuilder x = Check.show(Samples.SHORT_CHAPTERS);
            c.answers("first segment", n -> x.chapter(n, 0), 0, 0, 1, 2, 2, 3, 3, 4);
            c.answers("last segment", n -> x.chapter(n, 1), 0, 1, 1, 2, 2, 3, 3, 4);
            c.raisesAll("chapter", Samples.INDEX, n -> x.chapter(n, 0), Check.beside(0, 3));
            ChapterBuilder whole = Check.show("set 3 100;" + Samples.HARBOUR);
            c.equal("no cut: the first segment", 0, whole.chapter(0, 0));
            c.equal("no cut: the last segment", 4, whole.chapter(0, 1));
            c.raisesAll("no cut", Samples.INDEX, n -> whole.chapter(n, 0), Check.beside(0, 0));
            ChapterBuilder all = Cases.turns(32, 9, "");
            c.answers("all cuts", n -> all.chapter(n, 0), 0, 0, 1, 1, 31, 31);
            c.raisesAll("all cuts", Samples.INDEX, n -> all.chapter(n, 0), Check.beside(0, 31));
        });
        s.hold("(the sum of the durations of its segments) is from least to most", c -> {
            ChapterBuilder x = Check.show("set 0 50;set 1 60;seg 50 0 a;seg 20 0 b;seg 40 0 c;seg 55 0 d;");
            // 50, 60 and 55 seconds
            c.isTrue("exactly least and most", x.isAllowed(5));
            c.equal("the best one, too", 3, x.chapters());
            x.set(0, 51);
            c.isTrue("the first one is too short", !x.isAllowed(5));
            c.equal("the best one, too", -1, x.chapters());
            x.set(0, 50);
            x.set(1, 59);
            c.isTrue("the second one is too long", !x.isAllowed(5));
            c.equal("no division", 0, x.divisions());
            x.set(1, 60);
            x.setDuration(3, 49);
            c.isTrue("the last one is too short", !x.isAllowed(5));
            x.setDuration(3, 61);
            c.isTrue("the last one is too long", !x.isAllowed(5));
            c.equal("no division", -1, x.chapters());
            x.setDuration(3, 60);
            c.isTrue("the last one is as long as may be", x.isAllowed(5));
            // the whole show
            x.set(1, 170);
            c.isTrue("170 of 170 seconds", x.isAllowed(0));
            x.set(1, 169);
            c.isTrue("170 of 169 seconds", !x.isAllowed(0));
        });
        s.hold("Its worth is the sum of (change - price) over its cuts.", c -> {
            ChapterBuilder low = Cases.row(32, 9, "set 2 1;set 3 100;");
            c.equal("31 cuts of change 0 for 100", -3100, low.worthOf(Integer.MAX_VALUE));
            ChapterBuilder high = Cases.turns(32, 9, "set 3 0;");
            c.equal("31 cuts of change 100 for nothing", 3100, high.worthOf(Integer.MAX_VALUE));
            c.equal("the best of them", 3100, high.worth());
            c.equal("no cut", 0, high.worthOf(0));
            ChapterBuilder x = Check.show(Samples.HARBOUR);
            c.answers("cuts", mask -> x.worthOf(mask), 0, 0, 1, 20, 2, 60, 4, 27, 5, 47, 15, 167);
        });
    }

    private static void best(Sentences s) {
        s.hold("The best division is the allowed one with the greatest worth", c -> {
            ChapterBuilder x = Check.show(Samples.HARBOUR);
            c.equal("{1} of {}, {1} and {2}", 60, x.worth());
            c.same("its cuts", "1 ", Cases.cuts(x));
            x.setDuration(1, 19);
            c.equal("{1} leaves too little: {2}", 27, x.worth());
            c.same("its cuts", "2 ", Cases.cuts(x));
            ChapterBuilder bad = Cases.row(2, 9, "set 0 1;set 1 9;");
            c.equal("the only allowed one, below 0", -40, bad.worth());
            // a change of 67
            ChapterBuilder one = Check.show("set 0 1;set 3 66;seg 9 0 a b;seg 9 0 a c;");
            c.equal("one more than no cut", 1, one.worth());
            c.equal("one more than no cut", 2, one.chapters());
            one.set(3, 68);
            c.equal("one less than no cut", 0, one.worth());
            c.equal("one less than no cut", 1, one.chapters());
        });
        s.hold("of several the one with the fewest cuts", c -> {
            ChapterBuilder x = Cases.turns(4, 9, "set 3 100;");
            c.equal("no cut at all", 1, x.chapters());
            x.set(1, 18);
            c.same("one cut of up to three", "1 ", Cases.cuts(x));
            x.set(1, 9);
            c.same("all cuts", "0 1 2 ", Cases.cuts(x));
            ChapterBuilder one = Check.show("set 0 1;set 3 67;seg 9 0 a b;seg 9 0 a c;");
            c.equal("change and price are the same", 1, one.chapters());
        });
        s.hold("of several the one whose first cut is at the lowest boundary", c -> {
            ChapterBuilder x = Cases.turns(4, 9, "set 3 100;set 1 27;");
            c.same("{0}, {1} and {2} are equal", "0 ", Cases.cuts(x));
            x.set(0, 18);
            c.same("{0} and {2} leave too little", "1 ", Cases.cuts(x));
            ChapterBuilder y = Cases.turns(4, 9, "set 3 100;set 1 26;");
            c.same("{0} and {2} leave too much", "1 ", Cases.cuts(y));
        });
        s.hold("then the one whose second cut is, and so on", c -> {
            ChapterBuilder x = Cases.turns(7, 9, "set 3 100;set 1 27;");
            c.same("{0, 3} of {0, 3}, {1, 3}, {1, 4} and more", "0 3 ", Cases.cuts(x));
            x.setDuration(2, 27);
            c.same("the third of {1, 2, 3}, {1, 2, 4}, {1, 2, 5}", "1 2 3 ", Cases.cuts(x));
            ChapterBuilder full = Cases.turns(32, 9, "set 3 100;set 1 27;");
            c.same("11 chapters, the first with two segments: one less than 33", "1 4 7 10 13 16 19 22 25 28 ",
                    Cases.cuts(full));
            ChapterBuilder less = Cases.turns(31, 9, "set 3 100;set 1 27;");
            c.same("11 chapters, the first with one segment", "0 3 6 9 12 15 18 21 24 27 ", Cases.cuts(less));
        });
    }

    private static void none(Sentences s) {
        s.hold("There may be none.", c -> {
            ChapterBuilder x = Check.show("set 0 225;" + Samples.HARBOUR);
            c.equal("225 of 225 seconds", 1, x.chapters());
            x.set(0, 226);
            c.equal("225 of 226 seconds", -1, x.chapters());
            x.set(0, 1);
            x.set(1, 60);
            c.equal("60 seconds for the longest segment", 5, x.chapters());
            x.set(1, 59);
            c.equal("59 seconds for the longest segment", -1, x.chapters());
            x.set(1, 600);
            x.set(0, 601);
            c.equal("least above most", -1, x.chapters());
        });
        s.hold("A show without segments has none.", c -> {
            ChapterBuilder x = new ChapterBuilder();
            c.equal("a new one", -1, x.chapters());
            c.equal("a new one", 0, x.divisions());
            c.raises("a new one", Samples.ELEMENT, () -> x.worth());
            Check.loadText(x, "set 0 1;seg 1 0 a;");
            c.equal("one segment", 1, x.chapters());
            x.removeSegment(0);
            c.equal("the last one removed", -1, x.chapters());
            c.equal("the last one removed", 0, x.divisions());
            c.isTrue("the last one removed", !x.isAllowed(0));
            x.undo();
            x.load(0);
            c.equal("an empty text", -1, x.chapters());
        });
    }
}
