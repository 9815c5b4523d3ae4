import java.util.function.ToLongFunction;

/** The cases of 7 EXCEPTIONS and of the constants. */
final class RefusalCases {
    /** A call that is refused, on a show that it is made for. */
    private record Refused(String name, Class<? extends RuntimeException> due, Cases.Making ahead,
            ToLongFunction<ChapterBuilder> call) {
    }

    private static final Class<IllegalArgumentException> ARGUMENT = Samples.ARGUMENT;
    private static final Class<IllegalStateException> STATE = Samples.STATE;
    private static final Class<IndexOutOfBoundsException> INDEX = Samples.INDEX;
    private static final Class<java.util.NoSuchElementException> ELEMENT = Samples.ELEMENT;

    private static final Cases.Making NOTHING = x -> { };
    private static final Cases.Making NO_DIVISION = x -> x.set(0, 226);
    private static final Cases.Making FIVE_SLOTS = x -> {
        x.addSlot(1, 1, 1);
        x.addSlot(2, 2, 2);
        x.addSlot(3, 3, 3);
    };
    private static final Cases.Making EIGHT_WORDS = x -> {
        for (int size = x.segment(0, 2); size < 8; size++) {
            x.addWord(0, 4);
        }
    };
    private static final Cases.Making FULL_BUFFER = x -> {
        for (int i = 0; i < 45; i++) {
            x.append(0x73656720, 0x31203120, 0x613b2020, 0x20202020, 0x20202020);
        }
    };
    private static final Cases.Making ALL_UNDONE = x -> {
        for (int i = 0; i < 4; i++) {
            x.undo();
        }
    };

    private static final Refused[] CALLS = {
        new Refused("append", STATE, FULL_BUFFER, x -> x.append(1, 2, 3, 4, 5)),
        new Refused("load 1", ARGUMENT, NOTHING, x -> x.load(1)),
        new Refused("load -1", ARGUMENT, NOTHING, x -> x.load(-1)),
        new Refused("load 901", ARGUMENT, FULL_BUFFER, x -> x.load(901)),
        new Refused("count", ARGUMENT, NOTHING, x -> x.count(6)),
        new Refused("setting", INDEX, NOTHING, x -> x.setting(6)),
        new Refused("set 6", INDEX, NOTHING, x -> x.set(6, 1)),
        new Refused("set to 0", ARGUMENT, NOTHING, x -> x.set(2, 0)),
        new Refused("segment", INDEX, NOTHING, x -> x.segment(5, 4)),
        new Refused("segment what", ARGUMENT, NOTHING, x -> x.segment(4, 5)),
        new Refused("wordOf", INDEX, NOTHING, x -> x.wordOf(4, 1)),
        new Refused("uses", INDEX, NOTHING, x -> x.uses(0, 0, 5)),
        new Refused("uses to below from", ARGUMENT, NOTHING, x -> x.uses(0, 1, 0)),
        new Refused("setDuration", INDEX, NOTHING, x -> x.setDuration(5, 1)),
        new Refused("setDuration to 0", ARGUMENT, NOTHING, x -> x.setDuration(0, 0)),
        new Refused("setPause", INDEX, NOTHING, x -> x.setPause(5, 1)),
        new Refused("setPause to 100", ARGUMENT, NOTHING, x -> x.setPause(0, 100)),
        new Refused("addWord to 5", INDEX, NOTHING, x -> x.addWord(5, 0)),
        new Refused("addWord 5", INDEX, NOTHING, x -> x.addWord(0, 5)),
        new Refused("addWord 9", STATE, EIGHT_WORDS, x -> x.addWord(0, 0)),
        new Refused("removeSegment", INDEX, NOTHING, x -> x.removeSegment(5)),
        new Refused("moveSegment", INDEX, NOTHING, x -> x.moveSegment(5, 0)),
        new Refused("moveSegment to 5", INDEX, NOTHING, x -> x.moveSegment(0, 5)),
        new Refused("change", INDEX, NOTHING, x -> x.change(4)),
        new Refused("worth", ELEMENT, NO_DIVISION, x -> x.worth()),
        new Refused("chapter, none", ELEMENT, NO_DIVISION, x -> x.chapter(0, 0)),
        new Refused("chapter", INDEX, NOTHING, x -> x.chapter(4, 0)),
        new Refused("chapter what", ARGUMENT, NOTHING, x -> x.chapter(0, 5)),
        new Refused("chapterOf", INDEX, NOTHING, x -> x.chapterOf(5)),
        new Refused("worthOf", ARGUMENT, NOTHING, x -> x.worthOf(16)),
        new Refused("isAllowed", ARGUMENT, NOTHING, x -> x.isAllowed(-1) ? 1 : 0),
        new Refused("worthWith", INDEX, NOTHING, x -> x.worthWith(4, true)),
        new Refused("worthWith, none", ELEMENT, NO_DIVISION, x -> x.worthWith(0, true)),
        new Refused("priceFor", ARGUMENT, NOTHING, x -> x.priceFor(33)),
        new Refused("priceFor, none", ELEMENT, NOTHING, x -> x.priceFor(5)),
        new Refused("chaptersWith, none", ELEMENT, NO_DIVISION, x -> x.chaptersWith(0)),
        new Refused("chaptersWith", INDEX, NOTHING, x -> x.chaptersWith(5)),
        new Refused("typical, none", ELEMENT, NO_DIVISION, x -> x.typical(0)),
        new Refused("typical", INDEX, NOTHING, x -> x.typical(4)),
        new Refused("likeness, none", ELEMENT, NO_DIVISION, x -> x.likeness(0, 0)),
        new Refused("likeness", INDEX, NOTHING, x -> x.likeness(0, 4)),
        new Refused("mark, none", ELEMENT, NO_DIVISION, x -> x.mark(0, 0)),
        new Refused("mark", INDEX, NOTHING, x -> x.mark(0, 5)),
        new Refused("title, none", ELEMENT, NO_DIVISION, x -> x.title(0, 0)),
        new Refused("title", INDEX, NOTHING, x -> x.title(0, 3)),
        new Refused("addSlot", ARGUMENT, NOTHING, x -> x.addSlot(0, 0, 0)),
        new Refused("addSlot 6", STATE, FIVE_SLOTS, x -> x.addSlot(0, 1, 0)),
        new Refused("removeSlot", INDEX, NOTHING, x -> x.removeSlot(2)),
        new Refused("moveSlot", INDEX, NOTHING, x -> x.moveSlot(2, 0)),
        new Refused("moveSlot to 10000", ARGUMENT, NOTHING, x -> x.moveSlot(0, 10000)),
        new Refused("slot", INDEX, NOTHING, x -> x.slot(2, 0)),
        new Refused("slot what", ARGUMENT, NOTHING, x -> x.slot(0, 3)),
        new Refused("placeOf", INDEX, NOTHING, x -> x.placeOf(2)),
        new Refused("choices", INDEX, NOTHING, x -> x.choices(2)),
        new Refused("carried, none", STATE, x -> x.load(0), x -> x.carried(0)),
        new Refused("carried", ARGUMENT, NOTHING, x -> x.carried(225)),
        new Refused("writeChapters", ELEMENT, NO_DIVISION, x -> x.writeChapters()),
        new Refused("writtenByte", INDEX, NOTHING, x -> x.writtenByte(50)),
        new Refused("undo", STATE, ALL_UNDONE, x -> x.undo())};

    private RefusalCases() {
    }

    static void addTo(Sentences s) {
        s.section("7. EXCEPTIONS");
        s.hold("A method that throws an exception changes nothing.", c -> {
            for (Refused refused : CALLS) {
                ChapterBuilder twin = made(refused);
                ChapterBuilder x = made(refused);
                for (int i = 0; i < 2; i++) {
                    c.raises(refused.name, refused.due, () -> refused.call.applyAsLong(x));
                }
                sameFromNowOn(c, refused.name, twin, x);
            }
        });
        firstNamed(s);
        firstNamedWithoutDivision(s);
        indexes(s);
        s.section("The constants");
        s.hold("`NONE = -1`", c -> c.equal("NONE", -1, ChapterBuilder.NONE))
                .and("The value -1: there is none.");
        s.hold("`SYNTAX_ERROR = -2`", c -> c.equal("SYNTAX_ERROR", -2, ChapterBuilder.SYNTAX_ERROR));
        s.hold("`VALUE_ERROR = -3`", c -> c.equal("VALUE_ERROR", -3, ChapterBuilder.VALUE_ERROR));
        s.hold("`TOO_MANY = -4`", c -> c.equal("TOO_MANY", -4, ChapterBuilder.TOO_MANY));
    }

    /** Two slots, a version that is kept, a written text, an error and bytes in the buffer; four changes to undo. */
    private static ChapterBuilder made(Refused refused) {
        ChapterBuilder x = Check.show("slot 100 20 60;slot 110 15 80;" + Samples.SHORT_CHAPTERS);
        x.keep();
        x.setDuration(1, 31);
        x.setDuration(1, 30);
        x.writeChapters();
        Check.loadText(x, "seg 1 1 a;  ?");
        refused.ahead.make(x);
        return x;
    }

    private static void sameFromNowOn(Check c, String name, ChapterBuilder due, ChapterBuilder x) {
        c.same(name + ": the written text", Check.written(due), Check.written(x));
        c.equal(name + ": the position of the error", due.errorPosition(), x.errorPosition());
        c.same(name + ": the show", Check.portrait(due), Check.portrait(x));
        for (int i = 0; i < 3; i++) {
            c.same(name + ": undo", Check.outcome(() -> due.undo()), Check.outcome(() -> x.undo()));
            c.same(name + ": the show after undo", Check.portrait(due), Check.portrait(x));
        }
        c.same(name + ": the buffer", Check.outcome(() -> due.append(32, 32, 32, 32, 32)),
                Check.outcome(() -> x.append(32, 32, 32, 32, 32)));
        c.same(name + ": its bytes", Check.outcome(() -> due.load(900)), Check.outcome(() -> x.load(900)));
        c.equal(name + ": segments", due.count(0), x.count(0));
    }

    private static void firstNamed(Sentences s) {
        s.hold("If several exceptions apply, the one named first is thrown.", c -> {
            ChapterBuilder x = Check.show("slot 100 20 60;slot 110 15 80;" + Samples.SHORT_CHAPTERS);
            for (int wrong : Check.beside(0, 5)) {
                c.raises("set", INDEX, () -> x.set(wrong, wrong));
                c.raises("set to 0", INDEX, () -> x.set(wrong, 10000));
                c.raises("segment", INDEX, () -> x.segment(wrong, wrong));
                c.raises("uses of no word", INDEX, () -> x.uses(wrong, 4, 0));
                c.raises("uses from", INDEX, () -> x.uses(0, wrong, 0));
                c.raises("uses to", INDEX, () -> x.uses(0, 4, wrong));
                c.raises("setDuration", INDEX, () -> x.setDuration(wrong, 0));
                c.raises("setPause", INDEX, () -> x.setPause(wrong, 100));
                c.raises("chapter", INDEX, () -> x.chapter(wrong, wrong));
                c.raises("worthWith", INDEX, () -> Cases.undivided().worthWith(wrong, true));
                c.raises("moveSlot", INDEX, () -> x.moveSlot(wrong, -1));
                c.raises("slot", INDEX, () -> x.slot(wrong, wrong));
            }
            EIGHT_WORDS.make(x);
            c.raises("addWord: no word, and 8 words", INDEX, () -> x.addWord(0, 5));
            c.raises("addWord: word -1, and 8 words", INDEX, () -> x.addWord(0, -1));
            FIVE_SLOTS.make(x);
            c.raises("addSlot: wished, and 5 slots", ARGUMENT, () -> x.addSlot(-1, 1, 0));
            c.raises("addSlot: length, and 5 slots", ARGUMENT, () -> x.addSlot(0, 0, 0));
            c.raises("addSlot: reach, and 5 slots", ARGUMENT, () -> x.addSlot(0, 1, 1000));
            c.raises("carried: no version, and time -1", STATE, () -> x.carried(-1));
            c.raises("carried: no version, and a late time", STATE, () -> x.carried(Integer.MAX_VALUE));
            c.raises("priceFor: 0, and no division", ARGUMENT, () -> Cases.undivided().priceFor(0));
            c.raises("priceFor: 33, and no segments", ARGUMENT, () -> new ChapterBuilder().priceFor(33));
        });
    }

    private static void firstNamedWithoutDivision(Sentences s) {
        s.hold("the one named first is thrown", c -> {
            for (ChapterBuilder x : new ChapterBuilder[] {Cases.undivided(), new ChapterBuilder()}) {
                for (int wrong : Check.beside(0, 31)) {
                    c.raises("chapter", ELEMENT, () -> x.chapter(wrong, 0));
                    c.raises("chapter what", ELEMENT, () -> x.chapter(wrong, wrong));
                    c.raises("chaptersWith", ELEMENT, () -> x.chaptersWith(wrong));
                    c.raises("typical", ELEMENT, () -> x.typical(wrong));
                    c.raises("likeness", ELEMENT, () -> x.likeness(wrong, wrong));
                    c.raises("mark", ELEMENT, () -> x.mark(wrong, wrong));
                    c.raises("title", ELEMENT, () -> x.title(wrong, wrong));
                }
            }
        });
    }

    private static void indexes(Sentences s) {
        s.hold("An IndexOutOfBoundsException is thrown if a segment, boundary, word, slot, setting, chapter or other index "
                + "does not exist.", c -> {
                    ChapterBuilder x = Check.show("slot 100 20 60;slot 110 15 80;" + Samples.SHORT_CHAPTERS);
                    c.raisesAll("segment", INDEX, n -> x.chapterOf(n), Check.beside(0, 4));
                    c.raisesAll("boundary", INDEX, n -> x.change(n), Check.beside(0, 3));
                    c.raisesAll("word", INDEX, n -> x.chaptersWith(n), Check.beside(0, 4));
                    c.raisesAll("word of a segment", INDEX, n -> x.wordOf(0, n), Check.beside(0, 2));
                    c.raisesAll("slot", INDEX, n -> x.choices(n), Check.beside(0, 1));
                    c.raisesAll("setting", INDEX, n -> x.setting(n), Check.beside(0, 5));
                    c.raisesAll("chapter", INDEX, n -> x.typical(n), Check.beside(0, 3));
                    c.raisesAll("word of a title", INDEX, n -> x.title(0, n), Check.beside(0, 2));
                    c.raisesAll("byte", INDEX, n -> x.writtenByte(n), Check.beside(0, -1));
                    c.equal("length", 50, x.writeChapters());
                    c.raisesAll("byte", INDEX, n -> x.writtenByte(n), Check.beside(0, 49));
                });
    }
}
