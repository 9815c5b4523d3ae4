/** The cases of 6 CHANGES AND TEXTS that are about changes, and of the promises 40 to 44. */
final class EditCases {
    private static final String SLOTTED = "slot 100 20 60;slot 110 15 80;" + Samples.SHORT_CHAPTERS;

    private static final String[] NAMES = {"load", "set", "addSlot", "removeSlot", "moveSlot", "setDuration", "setPause",
        "removeSegment", "moveSegment", "addWord", "keep"};
    private static final Cases.Making[] CHANGES = {x -> Check.loadText(x, "seg 9 9 other;"), x -> x.set(0, 41),
        x -> x.addSlot(105, 3, 4), x -> x.removeSlot(0), x -> x.moveSlot(0, 112), x -> x.setDuration(2, 51),
        x -> x.setPause(2, 5), x -> x.removeSegment(2), x -> x.moveSegment(0, 4), x -> x.addWord(1, 4),
        x -> x.keep()};
    /** Calls that succeed and leave all as it was. */
    private static final Cases.Making[] SAME = {x -> Check.loadText(x, SLOTTED), x -> x.set(0, 40),
        x -> x.moveSlot(0, 100), x -> x.setDuration(2, 50), x -> x.setPause(2, 9), x -> x.moveSegment(2, 2)};
    private static final Cases.Reading[] REFUSED = {x -> x.load(1), x -> x.set(0, 0), x -> x.set(6, 1),
        x -> x.addSlot(0, 0, 0), x -> x.removeSlot(2), x -> x.moveSlot(0, -1), x -> x.moveSlot(2, 1),
        x -> x.setDuration(0, 0), x -> x.setDuration(5, 1), x -> x.setPause(0, 100), x -> x.setPause(5, 1),
        x -> x.removeSegment(5), x -> x.moveSegment(0, 5), x -> x.moveSegment(5, 0), x -> x.addWord(0, 5),
        x -> x.addWord(5, 0)};

    private EditCases() {
    }

    static void addTo(Sentences s) {
        s.section("6. CHANGES AND TEXTS");
        changes(s);
        latest(s);
        broughtBack(s);
        stays(s);
        keep(s);
        carried(s);
        carriedRemoved(s);
        carriedRefused(s);
        writeChapters(s);
        writtenByte(s);
        undo(s);
    }

    private static ChapterBuilder kept() {
        ChapterBuilder x = Check.show(SLOTTED);
        x.keep();
        x.moveSegment(1, 3);
        return x;
    }

    private static void changes(Sentences s) {
        s.hold("The changes are all calls of load, set, addSlot, removeSlot, moveSlot, setDuration, setPause, removeSegment, "
                + "moveSegment, addWord and keep that succeed", c -> {
            for (int i = 0; i < CHANGES.length; i++) {
                ChapterBuilder x = Check.show(SLOTTED);
                CHANGES[i].make(x);
                c.equal("undo of " + NAMES[i], 1, x.undo());
            }
            for (int i = 0; i < SAME.length; i++) {
                ChapterBuilder x = Check.show(SLOTTED);
                SAME[i].make(x);
                c.equal("undo of change " + i + " that leaves all as it was", 1, x.undo());
            }
            ChapterBuilder empty = new ChapterBuilder();
            empty.load(0);
            empty.keep();
            c.equal("load of an empty text and keep of an empty show", 1, empty.undo());
        });
        s.hold("that succeed", c -> {
            for (int i = 0; i < REFUSED.length; i++) {
                ChapterBuilder x = Check.show(SLOTTED);
                Cases.Reading call = REFUSED[i];
                c.isTrue("call " + i + " throws", Check.outcome(() -> call.of(x)).startsWith("throws."));
                c.equal("call " + i + " is no change", 0, x.undo());
            }
            ChapterBuilder x = Check.show(SLOTTED);
            Check.portrait(x);
            x.writeChapters();
            x.priceFor(1);
            x.worthWith(1, true);
            x.append(0, 0, 0, 0, 0);
            c.equal("questions are none", 0, x.undo());
        });
        s.hold("(a text with an error is no change)", c -> {
            for (String text : new String[] {"?", "seg 1 1 a;seg 1 1", "seg 1 1 a;set 0 0;", "seg 1 1 a;".repeat(33)}) {
                ChapterBuilder x = Check.show(SLOTTED);
                c.isTrue(text, Check.loadText(x, text) < 0);
                c.equal("after " + text, 0, x.undo());
            }
        });
    }

    private static void latest(Sentences s) {
        s.hold("The latest 8 changes can be undone, older ones cannot any more", c -> {
            for (int many : new int[] {1, 7, 8, 9, 15, 16, 17, 25}) {
                ChapterBuilder x = new ChapterBuilder();
                for (int price = 1; price <= many; price++) {
                    x.set(3, price);
                }
                int undone = Math.min(8, many);
                for (int i = 1; i <= undone; i++) {
                    c.equal(many + " changes, undo " + i, undone - i, x.undo());
                    c.equal("the price", many - i == 0 ? 40 : many - i, x.setting(3));
                }
                c.raises(many + " changes, one undo more", Samples.STATE, () -> x.undo());
                c.equal("the price stays", many <= 8 ? 40 : many - 8, x.setting(3));
            }
        });
    }

    private static void broughtBack(Sentences s) {
        s.hold("undoing a change brings back the segments, words, slots, settings and the kept version as they were before it",
                c -> {
                    for (int i = 0; i < CHANGES.length; i++) {
                        ChapterBuilder x = kept();
                        String before = Check.portrait(x);
                        CHANGES[i].make(x);
                        c.isTrue(NAMES[i] + " changes something", !before.equals(Check.portrait(x)));
                        x.undo();
                        c.same("after undo of " + NAMES[i], before, Check.portrait(x));
                        c.equal("its words", 4, x.find(Check.code("storm")));
                    }
                    ChapterBuilder first = Check.show(Samples.HARBOUR);
                    first.undo();
                    c.equal("the words of the first text are gone", -1, first.find(Check.code("sea")));
                    c.equal("and counted no more", 0, first.count(1));
                    ChapterBuilder x = Check.show(Samples.HARBOUR);
                    x.keep();
                    x.undo();
                    c.raises("no version was kept before", Samples.STATE, () -> x.carried(0));
                    x.keep();
                    x.setDuration(0, 10);
                    x.keep();
                    x.undo();
                    c.equal("the version before", 10, x.carried(39));
                    c.equal("its last second", 194, x.carried(224));
                    x.undo();
                    x.removeSegment(1);
                    x.undo();
                    c.equal("a segment that is back is the same one", 50, x.carried(50));
                    keptSizes(c);
                });
    }

    /** A version of one segment in place of one of five, and the other way round. */
    private static void keptSizes(Check c) {
        ChapterBuilder x = Check.show(Samples.HARBOUR);
        x.keep();
        for (int left = 4; left > 0; left--) {
            x.removeSegment(left);
        }
        x.keep();
        c.raises("one segment", Samples.ARGUMENT, () -> x.carried(40));
        for (int i = 0; i < 5; i++) {
            x.undo();
        }
        c.equal("the last of five again", 224, x.carried(224));
        ChapterBuilder y = Check.show(Samples.HARBOUR);
        for (int left = 4; left > 0; left--) {
            y.removeSegment(left);
        }
        y.keep();
        for (int i = 0; i < 5; i++) {
            y.undo();
        }
        y.removeSegment(1);
        y.undo();
        y.keep();
        c.equal("the last of five", 224, y.carried(224));
        y.undo();
        c.raises("none again", Samples.STATE, () -> y.carried(0));
    }

    private static void stays(Sentences s) {
        s.hold("(the text buffer", c -> {
            ChapterBuilder x = Check.show(Samples.HARBOUR);
            Check.appendText(x, "seg 1 1 a;");
            x.undo();
            c.raises("20 bytes", Samples.ARGUMENT, () -> x.load(21));
            c.equal("they are the same", 1, x.load(10));
            x.undo();
            c.raises("a load is undone, but not its text brought back", Samples.ARGUMENT, () -> x.load(1));
        });
        s.hold("the position of the error", c -> {
            ChapterBuilder x = Check.show(Samples.HARBOUR);
            Check.loadText(x, "seg 1 1 a;?");
            x.undo();
            c.equal("10", 10, x.errorPosition());
            x.load(0);
            x.undo();
            c.equal("none", -1, x.errorPosition());
        });
        s.hold("and the written text stay)", c -> {
            ChapterBuilder x = Check.show(Samples.SHORT_CHAPTERS);
            x.set(3, 100);
            String due = Cases.written(x);
            x.undo();
            c.same("after one undo", due, Check.written(x));
            x.undo();
            c.same("without segments", due, Check.written(x));
        });
    }

    private static void keep(Sentences s) {
        s.section("Promise 40");
        s.hold("Keeps the present version (which segments there are, and their speaking times and durations)", c -> {
            ChapterBuilder x = Check.show(Samples.HARBOUR);
            x.keep();
            c.equal("as it is", 100, x.carried(100));
            x.setDuration(0, 1);
            c.equal("the duration then: 39 of 40 seconds, now 1", 1, x.carried(39));
            c.equal("the speaking times then", 1, x.carried(40));
            x.moveSegment(4, 0);
            c.equal("the order then", 44, x.carried(224));
        });
        s.hold("in place of the one that was kept", c -> {
            ChapterBuilder x = Check.show(Samples.HARBOUR);
            x.keep();
            x.removeSegment(0);
            c.equal("the first version: 30 seconds into segment 0", 0, x.carried(30));
            x.keep();
            c.equal("the second version: 30 seconds into the market", 30, x.carried(30));
            c.raises("its time ends earlier", Samples.ARGUMENT, () -> x.carried(185));
            for (int left = 3; left >= 0; left--) {
                x.removeSegment(0);
            }
            x.keep();
            c.raises("an empty version in place of it", Samples.ARGUMENT, () -> x.carried(0));
        });
        s.hold("Returns the speaking time of the show.", c -> {
            c.equal("225", 225, Check.show(Samples.HARBOUR).keep());
            c.equal("no segments", 0, new ChapterBuilder().keep());
            c.equal("the longest show, without the lengths of slots", 31968,
                    Cases.row(32, 999, "slot 999 300 0;").keep());
        });
    }

    private static void carried(Sentences s) {
        s.section("Promise 41");
        s.hold("Carries a speaking time of the kept version over to the present one.", c -> {
            ChapterBuilder x = Check.show(Samples.HARBOUR);
            x.keep();
            c.answers("the same version", n -> x.carried(n), 0, 0, 39, 39, 40, 40, 224, 224);
            x.moveSegment(4, 0);
            c.answers("the last segment first", n -> x.carried(n), 0, 45, 39, 84, 179, 224, 180, 0, 224, 44);
        }).and("Returns the present speaking time.");
        s.hold("its present speaking time plus as much as the time lay behind its begin", c -> {
            ChapterBuilder x = Check.show(Samples.HARBOUR);
            x.keep();
            x.setDuration(1, 999);
            c.answers("a longer one", n -> x.carried(n), 39, 39, 40, 40, 69, 69, 70, 1039, 224, 1193);
            x.removeSegment(0);
            c.answers("and earlier", n -> x.carried(n), 40, 0, 69, 29, 70, 999);
        });
        s.hold("but at most its present duration", c -> {
            ChapterBuilder x = Check.show(Samples.HARBOUR);
            x.keep();
            x.setDuration(1, 20);
            c.answers("20 of 30 seconds", n -> x.carried(n), 40, 40, 59, 59, 60, 60, 61, 60, 69, 60, 70, 60);
            x.setDuration(1, 1);
            c.answers("1 of 30 seconds", n -> x.carried(n), 40, 40, 41, 41, 42, 41, 69, 41, 70, 41);
            x.setDuration(4, 44);
            c.answers("the end of the show", n -> x.carried(n), 223, 194, 224, 195);
            c.equal("that is no time of it any more", 195, x.count(3));
        });
        s.hold("`time`: a speaking time of the kept version, 0 or more and less than the speaking time of its show", c -> {
            ChapterBuilder x = Check.show(Samples.HARBOUR);
            x.keep();
            c.answers("0 to 224", n -> x.carried(n), 0, 0, 224, 224);
            x.removeSegment(4);
            c.equal("of the kept show, if the present one is shorter", 180, x.carried(224));
            ChapterBuilder full = Cases.row(32, 999, "");
            full.keep();
            c.answers("the longest show", n -> full.carried(n), 0, 0, 31967, 31967);
            ChapterBuilder one = Cases.row(1, 1, "");
            one.keep();
            c.answers("the shortest show", n -> one.carried(n), 0, 0);
        });
    }

    private static void carriedRemoved(Sentences s) {
        s.hold("the present speaking time of the first of the segments behind it in the kept version that still exists", c -> {
            ChapterBuilder x = Check.show(Samples.HARBOUR);
            x.keep();
            x.removeSegment(1);
            c.answers("the next one", n -> x.carried(n), 39, 39, 40, 40, 55, 40, 69, 40, 70, 40, 71, 41);
            x.removeSegment(1);
            c.answers("the one behind the next", n -> x.carried(n), 40, 40, 119, 40, 120, 40, 121, 41);
            // the present order is 4, 3, 0: behind 1 and 2 comes 3, wherever it is now
            x.moveSegment(2, 0);
            x.moveSegment(2, 1);
            c.same("the order", "45 60 40 ", Cases.durations(x));
            c.answers("in the order of the kept version", n -> x.carried(n), 40, 45, 119, 45, 0, 105);
            x.removeSegment(2);
            c.answers("the first one removed, too", n -> x.carried(n), 0, 45, 39, 45);
        });
        s.hold("or the speaking time of the show if there is none", c -> {
            ChapterBuilder x = Check.show(Samples.HARBOUR);
            x.keep();
            x.removeSegment(4);
            c.answers("the last one", n -> x.carried(n), 179, 179, 180, 180, 224, 180);
            x.removeSegment(3);
            c.answers("the last two", n -> x.carried(n), 119, 119, 120, 120, 224, 120);
            for (int left = 2; left >= 0; left--) {
                x.removeSegment(0);
            }
            c.answers("all of them", n -> x.carried(n), 0, 0, 100, 0, 224, 0);
            ChapterBuilder full = Cases.row(32, 9, "");
            full.keep();
            full.removeSegment(31);
            c.answers("the last of 32", n -> full.carried(n), 278, 278, 279, 279, 287, 279);
            // a shorter version in place of one that had the segment 4 at its end
            ChapterBuilder y = Check.show(Samples.HARBOUR);
            y.keep();
            y.moveSegment(4, 0);
            y.removeSegment(1);
            y.keep();
            y.removeSegment(3);
            c.answers("only the version that is kept counts", n -> y.carried(n), 124, 124, 125, 125, 184, 125);
        });
    }

    private static void carriedRefused(Sentences s) {
        s.hold("Throws `IllegalStateException` if no version is kept", c -> {
            c.raises("a new object", Samples.STATE, () -> new ChapterBuilder().carried(0));
            ChapterBuilder x = Check.show(Samples.HARBOUR);
            c.raises("no keep", Samples.STATE, () -> x.carried(0));
            x.keep();
            x.undo();
            c.raises("an undone keep", Samples.STATE, () -> x.carried(0));
            x.keep();
            x.load(0);
            c.raises("a load", Samples.STATE, () -> x.carried(0));
        });
        s.hold("Throws `IllegalArgumentException` if time is out of range", c -> {
            ChapterBuilder x = Check.show(Samples.HARBOUR);
            x.keep();
            c.raisesAll("carried", Samples.ARGUMENT, n -> x.carried(n), Check.beside(0, 224));
            x.setDuration(0, 999);
            c.raisesAll("the present show is longer", Samples.ARGUMENT, n -> x.carried(n), 225, 226);
            ChapterBuilder empty = new ChapterBuilder();
            empty.keep();
            c.raisesAll("an empty version has no time", Samples.ARGUMENT, n -> empty.carried(n), -1, 0, 1);
            Check.loadText(empty, "seg 9 0 a;");
            empty.undo();
            c.raisesAll("brought back", Samples.ARGUMENT, n -> empty.carried(n), -1, 0, 1);
        });
    }

    private static void writeChapters(Sentences s) {
        s.section("Promise 42");
        s.hold("Writes the chapters of the best division as a text, in place of what was written before", c -> {
            ChapterBuilder x = Check.show(Samples.SHORT_CHAPTERS);
            c.same("four chapters", "0 sea-boat;70 market-tea;120 tea-market;180 storm;", Cases.written(x));
            x.set(3, 100);
            c.same("a shorter text", "0 sea-tea-boat;", Cases.written(x));
            c.raises("nothing behind it", Samples.INDEX, () -> x.writtenByte(15));
            x.set(3, 40);
            c.same("a longer text", "0 sea-boat;70 market-tea;120 tea-market;180 storm;", Cases.written(x));
        });
        s.hold("for each chapter the real time of its first segment, a space", c -> {
            ChapterBuilder x = Check.show("slot 120 300 0;" + Samples.SHORT_CHAPTERS);
            c.same("real times", "0 sea-boat;70 market-tea;420 tea-market;480 storm;", Cases.written(x));
            ChapterBuilder y = Check.show("set 0 1;set 1 999;set 2 1;seg 9 0 a;seg 1 0 b;seg 89 0 c;seg 1 0 d;seg 899 0 e;"
                    + "seg 1 0 f;" + "seg 999 0 a;seg 999 0 b;".repeat(4) + "seg 999 0 a;seg 8 0 b;seg 1 0 c;seg 9 0 d;");
            c.same("1 to 5 digits", "0 a;9 b;10 c;99 d;100 e;999 f;1000 a;1999 b;2998 a;3997 b;4996 a;5995 b;6994 a;"
                    + "7993 b;8992 a;9991 b;9999 c;10000 d;", Cases.written(y));
        });
        s.hold("its title (the words with hyphens between them) and a semicolon", c -> {
            c.same("one word", "0 a;", Cases.written(Cases.row(1, 60, "")));
            c.same("two words", "0 az-za;", Cases.written(Check.show("seg 60 0 az za;")));
            c.same("three words", "0 abcdefgh-zyxwvuts-m;", Cases.written(Check.show("seg 60 0 abcdefgh zyxwvuts m;")));
            c.same("four words", "0 c-a-b;", Cases.written(Check.show("seg 60 0 a b c c d;")));
        });
        s.hold("Returns the length of the text.", c -> {
            c.equal("4", 4, Cases.row(1, 60, "").writeChapters());
            c.equal("50", 50, Check.show(Samples.SHORT_CHAPTERS).writeChapters());
            ChapterBuilder x = Check.show("set 0 999;set 1 999;slot 999 300 0;slot 1998 300 0;slot 2997 300 0;"
                    + "slot 3996 300 0;slot 4995 300 0;seg 9 9 abcdefgh bcdefghi cdefghij;" + "seg 9 9 abcdefgh;".repeat(31));
            for (int segment = 0; segment < 32; segment++) {
                x.setDuration(segment, 999);
                x.addWord(segment, 1);
                x.addWord(segment, 2);
            }
            // times of 1, 4 and 5 digits: 1, 8 and 23 of them, with 28 bytes behind each
            c.equal("32 chapters of long words", 1 + 8 * 4 + 23 * 5 + 32 * 28, x.writeChapters());
        });
        s.hold("Throws `NoSuchElementException` if there is no best division", c -> {
            c.raises("no segments", Samples.ELEMENT, () -> new ChapterBuilder().writeChapters());
            c.raises("too short", Samples.ELEMENT, () -> Cases.undivided().writeChapters());
            ChapterBuilder x = Check.show(Samples.SHORT_CHAPTERS);
            String due = Cases.written(x);
            x.set(0, 226);
            c.raises("too short", Samples.ELEMENT, () -> x.writeChapters());
            c.same("the text stays", due, Check.written(x));
        });
    }

    private static void writtenByte(Sentences s) {
        s.section("Promise 43");
        s.hold("Returns a byte of the text that was written last", c -> {
            ChapterBuilder x = Check.show("seg 60 0 az;");
            c.equal("length", 5, x.writeChapters());
            c.answers("byte", n -> x.writtenByte(n), 0, '0', 1, ' ', 2, 'a', 3, 'z', 4, ';');
            x.removeSegment(0);
            c.answers("also after a change", n -> x.writtenByte(n), 0, '0', 4, ';');
        }).and("Returns the byte.");
        s.hold("there is none at first", c -> {
            c.raisesAll("a new object", Samples.INDEX, n -> new ChapterBuilder().writtenByte(n), Check.beside(0, 0));
            ChapterBuilder x = Check.show(Samples.HARBOUR);
            c.raisesAll("after load alone", Samples.INDEX, n -> x.writtenByte(n), -1, 0, 1);
            x.set(0, 226);
            c.raises("nothing to write", Samples.ELEMENT, () -> x.writeChapters());
            c.raisesAll("after a call that throws", Samples.INDEX, n -> x.writtenByte(n), -1, 0, 1);
        });
        s.hold("`index`: 0 for the first byte", c -> {
            ChapterBuilder x = Check.show(Samples.SHORT_CHAPTERS);
            int length = x.writeChapters();
            c.answers("the first and the last one", n -> x.writtenByte(n), 0, '0', length - 1, ';');
        });
        s.hold("Throws `IndexOutOfBoundsException` if there is no such byte", c -> {
            ChapterBuilder x = Check.show(Samples.SHORT_CHAPTERS);
            int length = x.writeChapters();
            c.raisesAll("writtenByte", Samples.INDEX, n -> x.writtenByte(n), Check.beside(0, length - 1));
            x.set(3, 100);
            int shorter = x.writeChapters();
            c.raisesAll("of a shorter text", Samples.INDEX, n -> x.writtenByte(n), shorter, shorter + 1, length - 1);
        });
    }

    private static void undo(Sentences s) {
        s.section("Promise 44");
        s.hold("Undoes the latest change that has not been undone.", c -> {
            ChapterBuilder x = new ChapterBuilder();
            x.set(3, 1);
            x.set(3, 2);
            x.set(3, 3);
            x.undo();
            c.equal("the third undone", 2, x.setting(3));
            x.undo();
            c.equal("the second undone", 1, x.setting(3));
            x.set(3, 4);
            x.undo();
            c.equal("the fourth undone", 1, x.setting(3));
            x.undo();
            c.equal("the first undone", 40, x.setting(3));
        });
        s.hold("Returns the number of changes that can still be undone.", c -> {
            ChapterBuilder x = new ChapterBuilder();
            x.set(3, 1);
            c.equal("one change", 0, x.undo());
            for (int price = 1; price <= 8; price++) {
                x.set(3, price);
            }
            for (int left = 7; left >= 4; left--) {
                c.equal("eight changes", left, x.undo());
            }
            for (int price = 11; price <= 13; price++) {
                x.set(3, price);
            }
            c.equal("four and three", 6, x.undo());
            x.set(3, 14);
            x.set(3, 15);
            c.equal("six and two", 7, x.undo());
            x.set(3, 16);
            x.set(3, 17);
            c.equal("the first of nine cannot be undone", 7, x.undo());
            // what is left: the seven ahead of 17, of which the oldest is the second of all
            int[] prices = {14, 12, 11, 4, 3, 2, 1};
            for (int i = 0; i < prices.length; i++) {
                c.equal("undo", 6 - i, x.undo());
                c.equal("the price", prices[i], x.setting(3));
            }
            c.raises("the first of nine", Samples.STATE, () -> x.undo());
        });
        s.hold("Throws `IllegalStateException` if there is no change to undo", c -> {
            ChapterBuilder x = new ChapterBuilder();
            c.raises("a new object", Samples.STATE, () -> x.undo());
            x.set(3, 1);
            x.undo();
            c.raises("all are undone", Samples.STATE, () -> x.undo());
            c.raises("again", Samples.STATE, () -> x.undo());
            x.set(3, 2);
            c.equal("a later change", 0, x.undo());
            for (int price = 1; price <= 9; price++) {
                x.set(3, price);
            }
            for (int i = 0; i < 8; i++) {
                x.undo();
            }
            c.raises("the first of nine", Samples.STATE, () -> x.undo());
            c.equal("its price stays", 1, x.setting(3));
        });
    }
}
