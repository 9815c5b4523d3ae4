/** The cases of the promises 1 to 7: a new object, append, load, errorPosition, count, setting, set. */
final class SetupCases {
    private static final int[] FIRST = {60, 600, 2, 40, 5, 30};
    private static final int[] LOWEST = {1, 1, 1, 0, 0, 0};
    private static final int[] HIGHEST = {9999, 9999, 5, 100, 99, 9999};
    private static final int SPACES = 0x20202020;

    private SetupCases() {
    }

    static void addTo(Sentences s) {
        newObject(s);
        append(s);
        load(s);
        loadReplaces(s);
        errorPosition(s);
        count(s);
        countWords(s);
        setting(s);
        set(s);
    }

    private static int space(ChapterBuilder x) {
        return x.append(SPACES, SPACES, SPACES, SPACES, SPACES);
    }

    private static void newObject(Sentences s) {
        s.section("Promise 1");
        s.hold("Creates a show without segments", c -> {
            ChapterBuilder x = new ChapterBuilder();
            c.answers("count", n -> x.count(n), 0, 0, 1, 0, 3, 0, 4, 0, 5, 0);
            c.equal("chapters", -1, x.chapters());
            c.equal("segmentAt", -1, x.segmentAt(0));
            c.equal("find", -1, x.find(1));
            c.raises("segment", Samples.INDEX, () -> x.segment(0, 0));
            c.raises("uses", Samples.INDEX, () -> x.uses(0, 0, 0));
            c.answers("setting", n -> x.setting(n), 0, 60, 1, 600, 2, 2, 3, 40, 4, 5, 5, 30);
        });
        s.hold("and slots", c -> {
            ChapterBuilder x = new ChapterBuilder();
            c.equal("slots", 0, x.count(2));
            c.raises("slot", Samples.INDEX, () -> x.slot(0, 0));
            c.equal("cost", 0, x.placementCost());
        });
        s.hold("an empty text buffer", c -> {
            ChapterBuilder x = new ChapterBuilder();
            c.raises("load 1", Samples.ARGUMENT, () -> x.load(1));
            c.equal("load 0", 0, x.load(0));
            c.equal("the first 20 bytes", 20, space(new ChapterBuilder()));
        });
    }

    private static void append(Sentences s) {
        s.section("Promise 2");
        s.hold("Appends 20 bytes to the text buffer: the four bytes of each argument in order, the most significant byte first.",
                c -> {
                    ChapterBuilder x = new ChapterBuilder();
                    // seg12 3abcdef ghi j;
                    x.append(0x73656731, 0x32203361, 0x62636465, 0x66206768, 0x69206a3b);
                    c.equal("load", 1, x.load(20));
                    c.answers("segment", n -> x.segment(0, n), 0, 12, 1, 3, 2, 3);
                    c.equal("abcdef", 0, x.find(Check.code("abcdef")));
                    c.equal("ghi", 1, x.find(Check.code("ghi")));
                    c.equal("j", 2, x.find(Check.code("j")));
                });
        String[] names = {"`a`: first four bytes", "`b`: next four bytes", "`c`: next four bytes", "`d`: next four bytes",
            "`e`: last four bytes"};
        for (int i = 0; i < 5; i++) {
            int argument = i;
            s.hold(names[i], c -> {
                for (int place = 0; place < 4; place++) {
                    byteAt(c, argument, place, 0x21);
                    byteAt(c, argument, place, 0xff);
                    byteAt(c, argument, place, 0x80);
                    byteAt(c, argument, place, 0);
                }
            });
        }
        s.hold("Returns the new length of the buffer.", c -> {
            ChapterBuilder x = new ChapterBuilder();
            for (int length = 20; length <= 900; length += 20) {
                c.equal("length", length, space(x));
            }
            x.load(0);
            c.equal("after a load", 20, space(x));
        });
        s.hold("Throws `IllegalStateException` if the length would exceed 900", c -> {
            ChapterBuilder x = new ChapterBuilder();
            for (int i = 0; i < 44; i++) {
                space(x);
            }
            c.equal("exactly 900", 900, space(x));
            c.raises("920", Samples.STATE, () -> space(x));
            c.raises("920 again", Samples.STATE, () -> x.append(0, -1, Integer.MIN_VALUE, Integer.MAX_VALUE, 1));
            c.equal("the 900 bytes are still there", 0, x.load(900));
            c.equal("room again", 20, space(x));
        });
    }

    /** A byte that is no sign of the text, with spaces around it: the error is at its place. */
    private static void byteAt(Check c, int argument, int place, int value) {
        int[] five = {SPACES, SPACES, SPACES, SPACES, SPACES};
        int shift = 24 - 8 * place;
        five[argument] = five[argument] & ~(255 << shift) | value << shift;
        ChapterBuilder x = new ChapterBuilder();
        x.append(five[0], five[1], five[2], five[3], five[4]);
        c.equal("load", -2, x.load(20));
        c.equal("the place of byte " + value, 4 * argument + place, x.errorPosition());
    }

    private static void load(Sentences s) {
        s.section("Promise 3");
        s.hold("Reads the first bytes of the text buffer as a show.", c -> {
            ChapterBuilder x = new ChapterBuilder();
            Check.appendText(x, "seg 1 1 a;garbage!");
            c.equal("10 of 20 bytes", 1, x.load(10));
            ChapterBuilder y = new ChapterBuilder();
            Check.appendText(y, "seg 1 1 a;garbage!");
            c.equal("one byte more", -2, y.load(11));
            ChapterBuilder z = new ChapterBuilder();
            Check.appendText(z, "seg 1 1 a;");
            c.equal("one byte less", -2, z.load(9));
            c.equal("the end of what was read", 9, z.errorPosition());
        });
        s.hold("The buffer is empty afterwards in both cases.", c -> {
            ChapterBuilder x = new ChapterBuilder();
            Check.appendText(x, "seg 1 1 a;seg 2 2 b;");
            x.load(10);
            c.raises("no byte is left", Samples.ARGUMENT, () -> x.load(1));
            c.equal("a text without an error", 20, space(x));
            c.equal("spaces alone", 0, x.load(20));
            Check.appendText(x, "?eg 1 1 a;");
            c.equal("a text with an error", -2, x.load(10));
            c.raises("no byte is left", Samples.ARGUMENT, () -> x.load(1));
            c.equal("after an error", 20, space(x));
            x.load(0);
            c.raises("load 0 empties it, too", Samples.ARGUMENT, () -> x.load(1));
        });
        s.hold("`length`: number of bytes, 0 to the length of the buffer", c -> {
            ChapterBuilder x = new ChapterBuilder();
            c.equal("0 of 0", 0, x.load(0));
            space(x);
            c.equal("0 of 20", 0, x.load(0));
            space(x);
            c.equal("20 of 20", 0, x.load(20));
            for (int i = 0; i < 45; i++) {
                space(x);
            }
            c.equal("900 of 900", 0, x.load(900));
        });
        s.hold("Returns the number of segments, or the error code.", c -> {
            ChapterBuilder x = new ChapterBuilder();
            c.equal("none", 0, x.load(0));
            c.equal("one", 1, Check.loadText(x, "seg 1 1 a;"));
            c.equal("32", 32, Check.loadText(x, "seg 1 1 a;".repeat(32)));
            c.equal("a syntax error", -2, Check.loadText(x, "seg 1 1 a"));
            c.equal("a wrong value", -3, Check.loadText(x, "seg 0 1 a;"));
            c.equal("too many", -4, Check.loadText(x, "seg 1 1 a;".repeat(33)));
        });
        s.hold("Throws `IllegalArgumentException` if length is out of range", c -> {
            ChapterBuilder x = new ChapterBuilder();
            c.raisesAll("of 0", Samples.ARGUMENT, n -> x.load(n), Check.beside(0, 0));
            Check.appendText(x, "seg 1 1 a;");
            c.raisesAll("of 20", Samples.ARGUMENT, n -> x.load(n), Check.beside(0, 20));
            c.equal("the buffer stays", 1, x.load(10));
            for (int i = 0; i < 45; i++) {
                space(x);
            }
            c.raisesAll("of 900", Samples.ARGUMENT, n -> x.load(n), Check.beside(0, 900));
        });
    }

    private static void loadReplaces(Sentences s) {
        s.hold("If the text has no error, it replaces the present one", c -> {
            ChapterBuilder x = Check.show("set 2 5;slot 1 1 1;" + Samples.HARBOUR);
            c.equal("a shorter one", 1, Check.loadText(x, "seg 7 8 new;"));
            c.answers("count", n -> x.count(n), 0, 1, 1, 1, 2, 0, 3, 7, 4, 1);
            c.equal("its words are numbered anew", 0, x.find(Check.code("new")));
            c.equal("the old words are gone", -1, x.find(Check.code("sea")));
            c.equal("the settings are at first", 2, x.setting(2));
            c.equal("an empty one", 0, x.load(0));
            c.answers("count", n -> x.count(n), 0, 0, 1, 0, 2, 0, 3, 0, 4, 0);
        });
        s.hold("and no version is kept any more", c -> {
            ChapterBuilder x = Check.show(Samples.HARBOUR);
            x.keep();
            Check.loadText(x, Samples.HARBOUR);
            c.raises("the same text", Samples.STATE, () -> x.carried(0));
            x.keep();
            x.load(0);
            c.raises("an empty text", Samples.STATE, () -> x.carried(0));
        });
        s.hold("in case of an error the present show stays", c -> {
            ChapterBuilder x = Check.show("set 2 5;slot 1 1 1;" + Samples.HARBOUR);
            x.keep();
            String before = Check.portrait(x);
            // each fails at its very end
            String[] texts = {"set 2 4;slot 2 2 2;seg 1 1 new", "set 2 4;slot 2 2 2;seg 1 1 new;set 5 10000;",
                "set 2 4;slot 2 2 2;seg 1 1 new a b c d e f g h;", "?"};
            int[] codes = {-2, -3, -4, -2};
            for (int i = 0; i < texts.length; i++) {
                c.equal(texts[i], codes[i], Check.loadText(x, texts[i]));
                c.same("the show", before, Check.portrait(x));
            }
        });
    }

    private static void errorPosition(Sentences s) {
        s.section("Promise 4");
        s.hold("Returns the position of the error that the latest call of load found.", c -> {
            ChapterBuilder x = new ChapterBuilder();
            Check.loadText(x, "seg 1 1 a;?");
            c.equal("an error", 10, x.errorPosition());
            Check.loadText(x, "?");
            c.equal("a later one, at 0", 0, x.errorPosition());
            Check.loadText(x, " ".repeat(890) + "seg 1 1 a ");
            c.equal("at the end of the longest text", 900, x.errorPosition());
            c.raises("a load that throws", Samples.ARGUMENT, () -> x.load(1));
            c.equal("finds none and changes nothing", 900, x.errorPosition());
        });
        s.hold("NONE if it found no error", c -> {
            ChapterBuilder x = new ChapterBuilder();
            Check.loadText(x, "?");
            Check.loadText(x, "seg 1 1 a;");
            c.equal("after an error", -1, x.errorPosition());
            Check.loadText(x, "?");
            x.load(0);
            c.equal("an empty text", -1, x.errorPosition());
        });
        s.hold("or if there was no call", c -> {
            ChapterBuilder x = new ChapterBuilder();
            c.equal("a new object", -1, x.errorPosition());
            Check.appendText(x, "?");
            c.equal("after append alone", -1, x.errorPosition());
            c.raises("a load that throws", Samples.ARGUMENT, () -> x.load(21));
            c.equal("after a load that throws", -1, x.errorPosition());
        });
    }

    private static void count(Sentences s) {
        s.section("Promise 5");
        s.hold("Returns a number of the show.", c -> {
            ChapterBuilder x = Check.show("slot 1 1 1;slot 2 2 2;" + Samples.HARBOUR);
            c.answers("count", n -> x.count(n), 0, 5, 1, 5, 2, 2, 3, 225, 4, 11, 5, 3);
        }).and("Returns the requested number.");
        s.hold("0: segments", c -> {
            c.equal("none", 0, new ChapterBuilder().count(0));
            c.equal("32", 32, Cases.row(32, 9, "").count(0));
        });
        s.hold("2: slots", c -> {
            c.equal("none", 0, new ChapterBuilder().count(2));
            c.equal("5", 5, Check.show("slot 1 1 1;".repeat(5)).count(2));
        });
        s.hold("3: the speaking time of the show", c -> {
            c.equal("none", 0, new ChapterBuilder().count(3));
            c.equal("the longest, without the lengths of slots", 31968,
                    Cases.row(32, 999, "slot 999 300 0;").count(3));
        });
        s.hold("5: boundaries whose pause is at least the setting pause", c -> {
            ChapterBuilder x = Check.show(Samples.HARBOUR);
            int[][] due = {{0, 4}, {4, 4}, {5, 3}, {9, 3}, {10, 0}, {99, 0}};
            for (int[] row : due) {
                x.set(4, row[0]);
                c.equal("pause " + row[0], row[1], x.count(5));
            }
            c.equal("no segments", 0, new ChapterBuilder().count(5));
            c.equal("one segment has no boundary", 0, Cases.row(1, 9, "").count(5));
            c.equal("32 segments", 31, Cases.row(32, 9, "").count(5));
        });
        s.hold("Throws `IllegalArgumentException` for any other what", c -> {
            ChapterBuilder x = Check.show(Samples.HARBOUR);
            c.raisesAll("count", Samples.ARGUMENT, n -> x.count(n), Check.beside(0, 5));
            c.raisesAll("of a new object", Samples.ARGUMENT, n -> new ChapterBuilder().count(n), Check.beside(0, 5));
        });
    }

    private static void countWords(Sentences s) {
        s.hold("1: different words (also those that stand in no segment any more)", c -> {
            c.equal("none", 0, new ChapterBuilder().count(1));
            ChapterBuilder x = Check.show(Samples.LETTERS);
            c.equal("24", 24, x.count(1));
            for (int left = 2; left >= 0; left--) {
                x.removeSegment(left);
                c.equal("24 with " + left + " segments", 24, x.count(1));
            }
            c.equal("one word 8 times", 1, Check.show("seg 9 0 a a a a a a a a;").count(1));
        });
        s.hold("4: words of all segments (a word counts as often as it stands in them)", c -> {
            c.equal("none", 0, new ChapterBuilder().count(4));
            c.equal("one word 8 times", 8, Check.show("seg 9 0 a a a a a a a a;").count(4));
            c.equal("256", 256, Check.show("seg 9 0 a a b b a a c c;".repeat(32)).count(4));
            ChapterBuilder x = Check.show(Samples.HARBOUR);
            x.removeSegment(0);
            c.equal("without those of a removed segment", 8, x.count(4));
            x.addWord(0, 4);
            c.equal("with one that was added", 9, x.count(4));
        });
    }

    private static void setting(Sentences s) {
        s.section("Promise 6");
        s.hold("Returns a setting.", c -> {
            ChapterBuilder x = Check.show("set 0 11;set 1 12;set 2 3;set 3 14;set 4 15;set 5 16;");
            c.answers("setting", n -> x.setting(n), 0, 11, 1, 12, 2, 3, 3, 14, 4, 15, 5, 16);
        }).and("Returns its value.");
        s.hold("`setting`: 0 to 5", c -> {
            ChapterBuilder x = new ChapterBuilder();
            c.answers("the first and the last one", n -> x.setting(n), 0, 60, 5, 30);
        });
        s.hold("Throws `IndexOutOfBoundsException` if there is no such setting", c -> {
            ChapterBuilder x = new ChapterBuilder();
            c.raisesAll("setting", Samples.INDEX, n -> x.setting(n), Check.beside(0, 5));
        });
    }

    private static void set(Sentences s) {
        s.section("Promise 7");
        s.hold("Changes a setting.", c -> {
            for (int n = 0; n < 6; n++) {
                ChapterBuilder x = new ChapterBuilder();
                x.set(n, 3);
                for (int other = 0; other < 6; other++) {
                    c.equal("setting " + other, other == n ? 3 : FIRST[other], x.setting(other));
                }
            }
        });
        s.hold("`setting`: 0 to 5", c -> {
            ChapterBuilder x = new ChapterBuilder();
            c.answers("the first and the last one", n -> x.set(n, 1), 0, 60, 5, 30);
        });
        s.hold("`value`: the value, in the range of the setting", c -> {
            for (int i = 0; i < 6; i++) {
                int n = i;
                ChapterBuilder x = new ChapterBuilder();
                Cases.taken(c, "setting " + n, LOWEST[n], HIGHEST[n], value -> x.set(n, value));
                c.equal("the highest of " + n, HIGHEST[n], x.setting(n));
                x.set(n, LOWEST[n]);
                c.equal("the lowest of " + n, LOWEST[n], x.setting(n));
            }
        });
        s.hold("Returns the previous value.", c -> {
            ChapterBuilder x = new ChapterBuilder();
            for (int n = 0; n < 6; n++) {
                c.equal("the first one of " + n, FIRST[n], x.set(n, LOWEST[n]));
                c.equal("the lowest one of " + n, LOWEST[n], x.set(n, HIGHEST[n]));
                c.equal("the highest one of " + n, HIGHEST[n], x.set(n, HIGHEST[n]));
            }
        });
        s.hold("Throws `IndexOutOfBoundsException` if there is no such setting", c -> {
            ChapterBuilder x = new ChapterBuilder();
            c.raisesAll("set", Samples.INDEX, n -> x.set(n, 3), Check.beside(0, 5));
        });
        s.hold("Throws `IllegalArgumentException` if value is out of range", c -> {
            for (int i = 0; i < 6; i++) {
                int n = i;
                ChapterBuilder x = new ChapterBuilder();
                c.raisesAll("set " + n, Samples.ARGUMENT, value -> x.set(n, value), Check.beside(LOWEST[n], HIGHEST[n]));
                c.equal("the setting stays", FIRST[n], x.setting(n));
            }
        });
    }
}
