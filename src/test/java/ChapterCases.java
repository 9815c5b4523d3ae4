/** The cases of the promises 18 to 27: changes of topic and chapters. */
final class ChapterCases {
    private ChapterCases() {
    }

    static void addTo(Sentences s) {
        change(s);
        chaptersAndWorth(s);
        chapter(s);
        chapterOf(s);
        worthOf(s);
        isAllowed(s);
        divisions(s);
        worthWith(s);
        priceFor(s);
        priceForRefused(s);
    }

    private static void change(Sentences s) {
        s.section("Promise 18");
        s.hold("Returns the change of a boundary.", c -> {
            ChapterBuilder x = Check.show(Samples.HARBOUR);
            c.answers("change", n -> x.change(n), 0, 60, 1, 100, 2, 67, 3, 100);
        });
        s.hold("`boundary`: number of a boundary", c -> {
            ChapterBuilder x = Cases.turns(32, 9, "");
            c.answers("the first and the last one", n -> x.change(n), 0, 100, 30, 100);
            x.removeSegment(31);
            c.answers("the last one then", n -> x.change(n), 29, 100);
        });
        s.hold("Returns 0 to 100.", c -> {
            c.equal("0", 0, Check.show("seg 9 0 a;seg 9 0 a;").change(0));
            c.equal("100", 100, Check.show("seg 9 0 a;seg 9 0 b;").change(0));
        });
        s.hold("Throws `IndexOutOfBoundsException` if the boundary does not exist", c -> {
            ChapterBuilder x = Check.show(Samples.HARBOUR);
            c.raisesAll("change", Samples.INDEX, n -> x.change(n), Check.beside(0, 3));
            x.removeSegment(0);
            c.raisesAll("of 4 segments", Samples.INDEX, n -> x.change(n), 3);
            c.raisesAll("of 1 segment", Samples.INDEX, n -> Cases.row(1, 9, "").change(n), -1, 0);
            c.raisesAll("of none", Samples.INDEX, n -> new ChapterBuilder().change(n), -1, 0);
        });
    }

    private static void chaptersAndWorth(Sentences s) {
        s.section("Promise 19");
        s.hold("Returns the number of chapters of the best division.", c -> {
            ChapterBuilder x = Check.show(Samples.HARBOUR);
            c.equal("{1}", 2, x.chapters());
            x.set(0, 40);
            c.equal("{1, 2, 3}", 4, x.chapters());
            c.equal("one segment", 1, Cases.row(1, 60, "").chapters());
            c.equal("32 of 32", 32, Cases.turns(32, 999, "set 1 999;").chapters());
        });
        s.hold("Returns the number; NONE if there is no best division.", c -> {
            c.equal("no segments", -1, new ChapterBuilder().chapters());
            c.equal("too short", -1, Cases.undivided().chapters());
        });
        s.section("Promise 20");
        s.hold("Returns the worth of the best division.", c -> {
            c.equal("{1}", 60, Check.show(Samples.HARBOUR).worth());
            c.equal("no cut", 0, Cases.row(1, 60, "").worth());
            c.equal("31 cuts for nothing", 3100, Cases.turns(32, 9, "set 3 0;").worth());
        });
        s.hold("Returns the worth, which can be negative.", c -> {
            c.equal("one cut", -40, Cases.row(2, 9, "set 0 1;set 1 9;").worth());
            // the windows at both ends have 1 and 2 segments: two changes of 50, and 29 of 0
            c.equal("31 cuts", -3000, Cases.row(32, 9, "set 0 1;set 1 9;set 3 100;").worth());
        });
        s.hold("Throws `NoSuchElementException` if there is no best division", c -> {
            c.raises("no segments", Samples.ELEMENT, () -> new ChapterBuilder().worth());
            c.raises("too short", Samples.ELEMENT, () -> Cases.undivided().worth());
        });
    }

    private static void chapter(Sentences s) {
        s.section("Promise 21");
        ChapterBuilder x = Check.show("slot 120 25 0;" + Samples.SHORT_CHAPTERS);
        s.hold("Returns a number of a chapter of the best division.", c -> {
            ChapterBuilder y = Check.show(Samples.HARBOUR);
            c.equal("the first of {1}", 70, y.chapter(0, 2));
            y.set(0, 71);
            c.equal("the first of {2}", 120, y.chapter(0, 2));
        });
        s.hold("`chapter`: number of a chapter", c -> {
            c.answers("first segment", n -> x.chapter(n, 0), 0, 0, 3, 4);
            ChapterBuilder all = Cases.turns(32, 9, "");
            c.answers("of 32", n -> all.chapter(n, 1), 0, 0, 31, 31);
        });
        s.hold("0: its first segment", c -> c.answers("0", n -> x.chapter(n, 0), 0, 0, 1, 2, 2, 3, 3, 4))
                .and("Returns the requested number.");
        s.hold("1: its last segment", c -> c.answers("1", n -> x.chapter(n, 1), 0, 1, 1, 2, 2, 3, 3, 4));
        s.hold("2: its duration", c -> {
            c.answers("2", n -> x.chapter(n, 2), 0, 70, 1, 50, 2, 60, 3, 45);
            c.equal("the shortest", 1, Cases.row(1, 1, "set 0 1;").chapter(0, 2));
            // with the price 100 all in one is the best
            c.equal("the longest", 9999, Check.show("set 0 1;set 1 9999;set 3 100;seg 9 0 a;"
                    + "seg 999 0 b;".repeat(10)).chapter(0, 2));
        });
        s.hold("3: its number of different words", c -> {
            c.answers("3", n -> x.chapter(n, 3), 0, 2, 1, 2, 2, 2, 3, 1);
            c.equal("one word 8 times", 1, Check.show("set 0 1;seg 9 0 a a a a a a a a;").chapter(0, 3));
            c.equal("all words", 24, Check.show("set 0 1;set 3 100;" + Samples.LETTERS).chapter(0, 3));
            ChapterBuilder y = Check.show("set 0 1;set 3 100;" + Samples.LETTERS);
            y.removeSegment(0);
            c.equal("words that stand nowhere do not count", 16, y.chapter(0, 3));
            ChapterBuilder all = Cases.row(32, 9, "set 0 9;set 1 9;");
            c.answers("of 32 chapters", n -> all.chapter(n, 3), 0, 1, 15, 1, 31, 1);
        });
        s.hold("4: the real time of its first segment", c -> {
            c.answers("4", n -> x.chapter(n, 4), 0, 0, 1, 70, 2, 145, 3, 205);
            ChapterBuilder y = Check.show("slot 121 25 0;" + Samples.SHORT_CHAPTERS);
            c.answers("no placement", n -> y.chapter(n, 4), 0, 0, 1, 70, 2, 120, 3, 180);
        });
        s.hold("Throws `NoSuchElementException` if there is no best division", c -> {
            c.raises("no segments", Samples.ELEMENT, () -> new ChapterBuilder().chapter(0, 0));
            c.raises("too short", Samples.ELEMENT, () -> Cases.undivided().chapter(0, 0));
        });
        s.hold("Throws `IndexOutOfBoundsException` if the chapter does not exist", c -> {
            c.raisesAll("chapter", Samples.INDEX, n -> x.chapter(n, 0), Check.beside(0, 3));
            c.raisesAll("of one", Samples.INDEX, n -> Cases.row(1, 60, "").chapter(n, 0), -1, 1);
        });
        s.hold("Throws `IllegalArgumentException` for any other what",
                c -> c.raisesAll("what", Samples.ARGUMENT, n -> x.chapter(0, n), Check.beside(0, 4)));
    }

    private static void chapterOf(Sentences s) {
        s.section("Promise 22");
        ChapterBuilder x = Check.show(Samples.SHORT_CHAPTERS);
        s.hold("Returns the chapter of the best division that has a segment.",
                c -> c.answers("chapterOf", n -> x.chapterOf(n), 0, 0, 1, 0, 2, 1, 3, 2, 4, 3));
        s.hold("`segment`: number of a segment", c -> {
            ChapterBuilder all = Cases.turns(32, 9, "");
            c.answers("the first and the last of 32", n -> all.chapterOf(n), 0, 0, 31, 31);
            ChapterBuilder whole = Cases.row(32, 9, "set 3 100;");
            c.answers("in one chapter", n -> whole.chapterOf(n), 0, 0, 31, 0);
        });
        s.hold("Returns the number of the chapter; NONE if there is no best division.", c -> {
            ChapterBuilder y = Cases.undivided();
            c.answers("too short", n -> y.chapterOf(n), 0, -1, 4, -1);
        });
        s.hold("Throws `IndexOutOfBoundsException` if the segment does not exist", c -> {
            c.raisesAll("chapterOf", Samples.INDEX, n -> x.chapterOf(n), Check.beside(0, 4));
            c.raisesAll("too short", Samples.INDEX, n -> Cases.undivided().chapterOf(n), Check.beside(0, 4));
            c.raisesAll("no segments", Samples.INDEX, n -> new ChapterBuilder().chapterOf(n), -1, 0);
        });
    }

    private static void worthOf(Sentences s) {
        s.section("Promise 23");
        s.hold("Returns the worth of a told division, allowed or not.", c -> {
            ChapterBuilder x = Check.show(Samples.HARBOUR);
            c.equal("{1} is allowed", 60, x.worthOf(2));
            c.equal("{0} is not", 20, x.worthOf(1));
            ChapterBuilder none = Cases.undivided();
            c.equal("{1}, and none is allowed", 60, none.worthOf(2));
            c.equal("{}, and none is allowed", 0, none.worthOf(0));
        });
        s.hold("`cuts`: the cuts, a bit mask: bit k for boundary k", c -> {
            ChapterBuilder x = Check.show(Samples.HARBOUR);
            c.answers("one cut", mask -> x.worthOf(mask), 1, 20, 2, 60, 4, 27, 8, 60);
            c.answers("more cuts", mask -> x.worthOf(mask), 3, 80, 9, 80, 15, 167);
            ChapterBuilder full = Cases.turns(32, 9, "");
            c.answers("of 32 segments", mask -> full.worthOf(mask), 1, 60, 1 << 30, 60, Integer.MAX_VALUE, 1860);
        });
        s.hold("Returns the worth; 0 for the mask 0, also without segments.", c -> {
            c.equal("without segments", 0, new ChapterBuilder().worthOf(0));
            c.equal("one segment", 0, Cases.row(1, 9, "").worthOf(0));
            c.equal("32 segments", 0, Cases.turns(32, 9, "").worthOf(0));
        });
        s.hold("Throws `IllegalArgumentException` if the mask is negative or has a boundary that does not exist", c -> {
            ChapterBuilder x = Check.show(Samples.HARBOUR);
            c.raisesAll("boundary 4", Samples.ARGUMENT, mask -> x.worthOf(mask), 16, 17, 31, 1 << 30, Integer.MAX_VALUE);
            c.raisesAll("negative", Samples.ARGUMENT, mask -> x.worthOf(mask), -1, -16, Integer.MIN_VALUE,
                    Integer.MIN_VALUE | 1);
            ChapterBuilder full = Cases.turns(32, 9, "");
            c.raisesAll("negative, of 32", Samples.ARGUMENT, mask -> full.worthOf(mask), -1, Integer.MIN_VALUE);
            full.removeSegment(31);
            c.raisesAll("boundary 30 of 31 segments", Samples.ARGUMENT, mask -> full.worthOf(mask), 1 << 30);
            c.raisesAll("one segment", Samples.ARGUMENT, mask -> Cases.row(1, 9, "").worthOf(mask), 1, -1);
            c.raisesAll("no segments", Samples.ARGUMENT, mask -> new ChapterBuilder().worthOf(mask), 1, -1,
                    Integer.MAX_VALUE, Integer.MIN_VALUE);
        });
    }

    private static void isAllowed(Sentences s) {
        s.section("Promise 24");
        s.hold("Tells whether a told division is allowed.", c -> {
            ChapterBuilder x = Check.show(Samples.HARBOUR);
            for (int mask = 0; mask < 16; mask++) {
                c.equal("cuts " + mask, mask == 0 || mask == 2 || mask == 4 ? 1 : 0, x.isAllowed(mask) ? 1 : 0);
            }
        });
        s.hold("`cuts`: the cuts, a bit mask: bit k for boundary k", c -> {
            ChapterBuilder x = Cases.row(32, 9, "set 0 9;set 1 9;");
            c.isTrue("all cuts of 32 segments", x.isAllowed(Integer.MAX_VALUE));
            c.isTrue("without the last one", !x.isAllowed(Integer.MAX_VALUE >> 1));
            c.isTrue("without the first one", !x.isAllowed(Integer.MAX_VALUE - 1));
            x.set(1, 279);
            c.isTrue("the last one alone", x.isAllowed(1 << 30));
            c.isTrue("the first one alone", x.isAllowed(1));
            c.isTrue("none", !x.isAllowed(0));
        });
        s.hold("Returns whether it is; false without segments.", c -> {
            c.isTrue("without segments", !new ChapterBuilder().isAllowed(0));
            c.isTrue("one segment", Cases.row(1, 60, "").isAllowed(0));
            c.isTrue("one short segment", !Cases.row(1, 59, "").isAllowed(0));
        });
        s.hold("Throws `IllegalArgumentException` if the mask is negative or has a boundary that does not exist", c -> {
            ChapterBuilder x = Check.show(Samples.HARBOUR);
            c.raisesAll("boundary 4", Samples.ARGUMENT, mask -> x.isAllowed(mask) ? 1 : 0, 16, 17, 1 << 30,
                    Integer.MAX_VALUE);
            c.raisesAll("negative", Samples.ARGUMENT, mask -> x.isAllowed(mask) ? 1 : 0, -1, -16, Integer.MIN_VALUE);
            ChapterBuilder full = Cases.row(32, 9, "");
            c.raisesAll("negative, of 32", Samples.ARGUMENT, mask -> full.isAllowed(mask) ? 1 : 0, -1,
                    Integer.MIN_VALUE);
            c.raisesAll("no segments", Samples.ARGUMENT, mask -> new ChapterBuilder().isAllowed(mask) ? 1 : 0, 1, -1,
                    Integer.MIN_VALUE);
        });
    }

    private static void divisions(Sentences s) {
        s.section("Promise 25");
        s.hold("Counts the allowed divisions.", c -> {
            ChapterBuilder x = Check.show(Samples.HARBOUR);
            c.equal("{}, {1} and {2}", 3, x.divisions());
            x.set(0, 1);
            c.equal("all of 4 boundaries", 16, x.divisions());
            x.set(0, 225);
            c.equal("{} alone", 1, x.divisions());
            x.set(0, 226);
            c.equal("none", 0, x.divisions());
            c.equal("no segments", 0, new ChapterBuilder().divisions());
            c.equal("one segment", 1, Cases.row(1, 60, "").divisions());
        });
        s.hold("Returns the number of divisions.", c -> {
            c.equal("above the range of an int", 2147483648L, Cases.row(32, 1, "set 0 1;").divisions());
            c.equal("at most 31 segments a chapter: one less", 2147483647L,
                    Cases.row(32, 1, "set 0 1;set 1 31;").divisions());
        });
    }

    private static void worthWith(Sentences s) {
        s.section("Promise 26");
        s.hold("Returns the greatest worth of an allowed division in which a boundary is, or is not, a cut.", c -> {
            ChapterBuilder x = Check.show(Samples.SHORT_CHAPTERS);
            c.equal("{0, 2, 3}", 107, x.worthWith(0, true));
            c.equal("{1, 2}", 87, x.worthWith(3, false));
            c.equal("the best one itself", 147, x.worthWith(1, true));
            c.equal("the best one itself", 147, x.worthWith(0, false));
            c.equal("the best one stays", 147, x.worth());
            c.same("the best one stays", "1 2 3 ", Cases.cuts(x));
        });
        s.hold("`boundary`: number of a boundary", c -> {
            ChapterBuilder x = Cases.turns(32, 9, "");
            c.equal("without the first one", 1800, x.worthWith(0, false));
            c.equal("without the last one", 1800, x.worthWith(30, false));
            c.equal("with the last one", 1860, x.worthWith(30, true));
        });
        s.hold("`cut`: whether it is a cut", c -> {
            ChapterBuilder x = Check.show(Samples.HARBOUR);
            c.equal("with 2", 27, x.worthWith(2, true));
            c.equal("without 2", 60, x.worthWith(2, false));
        });
        s.hold("Returns the worth.", c -> {
            c.equal("below 0", -40, Cases.row(2, 9, "set 0 1;").worthWith(0, true));
            c.equal("0", 0, Cases.row(2, 30, "").worthWith(0, false));
        });
        s.hold("Throws `IndexOutOfBoundsException` if the boundary does not exist", c -> {
            ChapterBuilder x = Check.show(Samples.HARBOUR);
            c.raisesAll("with", Samples.INDEX, n -> x.worthWith(n, true), Check.beside(0, 3));
            c.raisesAll("without", Samples.INDEX, n -> x.worthWith(n, false), Check.beside(0, 3));
            c.raisesAll("one segment", Samples.INDEX, n -> Cases.row(1, 60, "").worthWith(n, false), -1, 0);
            c.raisesAll("no segments", Samples.INDEX, n -> new ChapterBuilder().worthWith(n, true), -1, 0);
        });
        s.hold("Throws `NoSuchElementException` if there is no such division", c -> {
            ChapterBuilder x = Check.show(Samples.HARBOUR);
            c.raisesAll("no cut leaves a chapter of 40 or 45 seconds", Samples.ELEMENT, n -> x.worthWith(n, true), 0, 3);
            x.set(1, 155);
            x.set(0, 70);
            c.equal("70 and 155 seconds", 60, x.worthWith(1, true));
            x.set(1, 154);
            c.raises("155 of 154 seconds", Samples.ELEMENT, () -> x.worthWith(1, true));
            c.equal("120 and 105 seconds", 27, x.worthWith(2, true));
            c.raises("no cut at 2", Samples.ELEMENT, () -> x.worthWith(2, false));
            c.raises("no division at all", Samples.ELEMENT, () -> Cases.undivided().worthWith(0, true));
            c.raises("no division at all", Samples.ELEMENT, () -> Cases.undivided().worthWith(0, false));
        });
    }

    private static void priceFor(Sentences s) {
        s.section("Promise 27");
        s.hold("Returns the greatest price with which the best division would have at least a number of chapters.", c -> {
            ChapterBuilder x = Check.show(Samples.SHORT_CHAPTERS);
            c.answers("priceFor", n -> x.priceFor(n), 1, 100, 2, 99, 3, 99, 4, 66);
            x.set(3, 66);
            c.equal("4 chapters for 66", 4, x.chapters());
            x.set(3, 67);
            c.equal("not for 67", 3, x.chapters());
            x.set(3, 99);
            c.equal("3 chapters for 99", 3, x.chapters());
            x.set(3, 100);
            c.equal("not for 100", 1, x.chapters());
        });
        s.hold("Nothing changes.", c -> {
            ChapterBuilder x = Check.show(Samples.SHORT_CHAPTERS);
            String before = Check.portrait(x);
            x.priceFor(4);
            c.equal("the price", 40, x.setting(3));
            c.same("the show", before, Check.portrait(x));
            c.equal("the worth", 147, x.worth());
            c.equal("it is no change that could be undone", 0, x.undo());
        });
        s.hold("`many`: 1 to 32", c -> {
            c.equal("1", 100, Cases.row(1, 60, "").priceFor(1));
            c.equal("32", 99, Cases.turns(32, 9, "").priceFor(32));
        });
        s.hold("Returns the price, 0 to 100.", c -> {
            // {1} is worth 67 - p, and {0, 2} 68 - 2p: only the price 0 makes it the best
            ChapterBuilder x = Check.show("set 0 20;set 1 40;set 2 1;seg 20 0 c b a;seg 10 0 a c;seg 10 0 b a;"
                    + "seg 20 0 a b b;");
            c.equal("0", 0, x.priceFor(3));
            c.equal("100", 100, x.priceFor(2));
            // one change alone: the price must be below it
            c.equal("a change of 34", 33, changeOf("a b", "a b c").priceFor(2));
            c.equal("a change of 50", 49, changeOf("a", "a b").priceFor(2));
            c.equal("a change of 67", 66, changeOf("a", "a b c").priceFor(2));
            c.equal("a change of 75", 74, changeOf("a", "a b c d").priceFor(2));
            c.equal("a change of 13", 12, changeOf("a b c d e f g", "a b c d e f g h").priceFor(2));
            c.equal("a change of 100", 99, changeOf("a", "b").priceFor(2));
            // nearly each likeness there is: the number of a word in 40 words of one side, and in those of the other
            boolean[] seen = new boolean[100];
            for (int more = 1; more <= 40; more++) {
                for (int less = 1; less < more; less++) {
                    int alike = 100 * less / more;
                    if (!seen[alike]) {
                        seen[alike] = true;
                        ChapterBuilder y = Check.show("set 2 5;" + minute(less) + minute(more));
                        c.equal("a likeness of " + alike, 99 - alike, y.priceFor(2));
                    }
                }
            }
            c.isTrue("the lowest change above 0 is 3", seen[97] && !seen[98] && !seen[99]);
        });
    }

    private static ChapterBuilder changeOf(String one, String other) {
        return Check.show("set 0 1;seg 9 0 " + one + ";seg 9 0 " + other + ";");
    }

    /** 60 seconds, the least duration of a chapter, in which a word stands up to 40 times. */
    private static String minute(int times) {
        int segments = (times + 7) / 8;
        StringBuilder text = new StringBuilder();
        for (int i = 0; i < segments; i++) {
            int here = times / segments + (i < times % segments ? 1 : 0);
            text.append("seg ").append(60 / segments).append(" 0").append(" a".repeat(here)).append(';');
        }
        return text.toString();
    }

    private static void priceForRefused(Sentences s) {
        s.hold("Throws `IllegalArgumentException` if many is out of range", c -> {
            ChapterBuilder x = Cases.turns(32, 9, "");
            c.raisesAll("priceFor", Samples.ARGUMENT, n -> x.priceFor(n), Check.beside(1, 32));
        });
        s.hold("Throws `NoSuchElementException` if there is no such price", c -> {
            ChapterBuilder x = Check.show(Samples.SHORT_CHAPTERS);
            c.raisesAll("more than segments, or too short", Samples.ELEMENT, n -> x.priceFor(n), 5, 6, 32);
            c.raises("a change of 0 is worth no cut", Samples.ELEMENT,
                    () -> changeOf("a b", "b a").priceFor(2));
            c.raises("too short", Samples.ELEMENT, () -> Cases.undivided().priceFor(1));
            c.raises("no segments", Samples.ELEMENT, () -> new ChapterBuilder().priceFor(1));
            ChapterBuilder less = Cases.turns(31, 9, "");
            c.equal("31 of 31", 99, less.priceFor(31));
            c.raises("32 of 31", Samples.ELEMENT, () -> less.priceFor(32));
        });
    }
}
