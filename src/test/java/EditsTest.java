/** Promises 40 to 44: keep, carried, the written text, undo. */
public final class EditsTest {
    private static final Check CHECK = new Check();

    private interface Change {
        void make(ChapterBuilder builder);
    }

    public static void main(String[] args) {
        keep();
        carried();
        writeChapters();
        undoEachChange();
        undoDepth();
        noChange();
        undoLeaves();
        CHECK.end("EditsTest");
    }

    private static void keep() {
        ChapterBuilder x = Check.show(Samples.HARBOUR);
        CHECK.raises("none is kept", Samples.STATE, () -> x.carried(-1));
        CHECK.equal("keep", 225, x.keep());
        CHECK.equal("the last second", 224, x.carried(224));
        x.removeSegment(0);
        CHECK.equal("the kept one stays", 0, x.carried(39));
        CHECK.equal("keep again", 185, x.keep());
        CHECK.equal("in place of the first", 39, x.carried(39));
        CHECK.raises("its time", Samples.ARGUMENT, () -> x.carried(185));
        ChapterBuilder empty = new ChapterBuilder();
        CHECK.equal("keep of an empty show", 0, empty.keep());
        CHECK.raises("no time in it", Samples.ARGUMENT, () -> empty.carried(0));
    }

    private static void carriedTo(ChapterBuilder x, int... pairs) {
        for (int i = 0; i < pairs.length; i += 2) {
            CHECK.equal("carried " + pairs[i], pairs[i + 1], x.carried(pairs[i]));
        }
    }

    private static void carried() {
        ChapterBuilder x = Check.show(Samples.HARBOUR);
        x.keep();
        carriedTo(x, 0, 0, 39, 39, 40, 40, 100, 100, 224, 224);
        for (int wrong : new int[] {-1, 225, Integer.MIN_VALUE, Integer.MAX_VALUE}) {
            CHECK.raises("carried " + wrong, Samples.ARGUMENT, () -> x.carried(wrong));
        }
        x.setDuration(1, 10);
        carriedTo(x, 40, 40, 45, 45, 50, 50, 51, 50, 69, 50, 70, 50, 224, 204);
        x.setDuration(1, 20);
        carriedTo(x, 59, 59, 60, 60, 69, 60);
        x.setDuration(1, 10);
        x.moveSegment(4, 0);
        carriedTo(x, 0, 45, 180, 0, 224, 44, 40, 85);
        x.removeSegment(1);
        carriedTo(x, 0, 45, 39, 45, 45, 50);
        x.removeSegment(3);
        // the next in the kept version is at the front now
        carriedTo(x, 120, 0, 179, 0, 190, 10);
        x.removeSegment(0);
        carriedTo(x, 180, 60, 224, 60, 120, 60, 75, 15, 0, 0);
        x.removeSegment(0);
        x.removeSegment(0);
        carriedTo(x, 0, 0, 224, 0);
        Check.loadText(x, Samples.HARBOUR);
        CHECK.raises("load keeps none", Samples.STATE, () -> x.carried(0));
        x.undo();
        carriedTo(x, 0, 0, 224, 0);
    }

    private static void writeChapters() {
        ChapterBuilder x = Check.show(Samples.SHORT_CHAPTERS);
        CHECK.raises("nothing is written", Samples.INDEX, () -> x.writtenByte(0));
        String due = "0 sea-boat;70 market-tea;120 tea-market;180 storm;";
        CHECK.equal("length", due.length(), x.writeChapters());
        CHECK.same("text", due, Check.written(x));
        for (int wrong : new int[] {-1, due.length(), Integer.MIN_VALUE, Integer.MAX_VALUE}) {
            CHECK.raises("writtenByte " + wrong, Samples.INDEX, () -> x.writtenByte(wrong));
        }
        CHECK.equal("the first byte", '0', x.writtenByte(0));
        CHECK.equal("the last byte", ';', x.writtenByte(due.length() - 1));
        x.addSlot(120, 300, 0);
        CHECK.same("the text stays", due, Check.written(x));
        x.set(0, 500);
        CHECK.raises("no division", Samples.ELEMENT, () -> x.writeChapters());
        CHECK.same("the text stays", due, Check.written(x));
        x.set(0, 60);
        CHECK.equal("shorter", "0 sea-boat;70 tea-market-storm;".length(), x.writeChapters());
        CHECK.same("in place of the other", "0 sea-boat;70 tea-market-storm;", Check.written(x));
        x.set(0, 40);
        x.writeChapters();
        CHECK.same("real times", "0 sea-boat;70 market-tea;420 tea-market;480 storm;", Check.written(x));
        CHECK.raises("no segments", Samples.ELEMENT, () -> new ChapterBuilder().writeChapters());
        ChapterBuilder y = Check.show("set 0 1;set 1 999;set 2 1;seg 9 0 a;seg 1 0 b;"
                + "seg 90 0 c;seg 900 0 d;seg 9 0 e;");
        y.writeChapters();
        CHECK.same("all digits", "0 a;9 b;10 c;100 d;1000 e;", Check.written(y));
    }

    private static void undoOf(String what, Change change) {
        ChapterBuilder x = Check.show("slot 100 20 60;slot 110 15 80;" + Samples.SHORT_CHAPTERS);
        x.keep();
        x.moveSegment(1, 3);
        String before = Check.portrait(x);
        change.make(x);
        CHECK.isTrue(what + " changes something", !before.equals(Check.portrait(x)));
        CHECK.equal("undo of " + what, 3, x.undo());
        CHECK.same("as before " + what, before, Check.portrait(x));
        CHECK.equal("the word is there", 4, x.find(Check.code("storm")));
    }

    private static void undoEachChange() {
        undoOf("load", x -> Check.loadText(x, "seg 9 9 other;"));
        undoOf("set", x -> x.set(0, 41));
        undoOf("addSlot", x -> x.addSlot(105, 3, 4));
        undoOf("removeSlot", x -> x.removeSlot(0));
        undoOf("moveSlot", x -> x.moveSlot(0, 112));
        undoOf("setDuration", x -> x.setDuration(2, 51));
        undoOf("setPause", x -> x.setPause(2, 5));
        undoOf("removeSegment", x -> x.removeSegment(2));
        undoOf("moveSegment", x -> x.moveSegment(0, 4));
        undoOf("addWord", x -> x.addWord(1, 4));
        undoOf("keep", x -> x.keep());
    }

    private static void undoDepth() {
        ChapterBuilder x = new ChapterBuilder();
        CHECK.raises("no change", Samples.STATE, () -> x.undo());
        for (int price = 1; price <= 10; price++) {
            x.set(3, price);
        }
        for (int left = 7; left >= 0; left--) {
            CHECK.equal("left", left, x.undo());
            CHECK.equal("price", 2 + left, x.setting(3));
        }
        CHECK.raises("older ones cannot be undone", Samples.STATE, () -> x.undo());
        CHECK.equal("price", 2, x.setting(3));
        for (int price = 21; price <= 23; price++) {
            x.set(3, price);
        }
        CHECK.equal("undo", 2, x.undo());
        x.set(3, 30);
        CHECK.equal("undo of the last", 2, x.undo());
        CHECK.equal("price", 22, x.setting(3));
        CHECK.equal("undo", 1, x.undo());
        CHECK.equal("undo", 0, x.undo());
        CHECK.equal("price", 2, x.setting(3));
        CHECK.raises("none is left", Samples.STATE, () -> x.undo());
    }

    /** Calls that answer alone, and calls that throw, are no changes; a call that changes nothing is one. */
    private static void noChange() {
        ChapterBuilder x = Check.show(Samples.SHORT_CHAPTERS);
        x.set(3, 40);
        Check.portrait(x);
        x.writeChapters();
        x.priceFor(2);
        x.worthWith(1, true);
        Check.loadText(x, "seg 1 1 a");
        Check.Call[] wrong = {() -> x.set(3, 101), () -> x.set(6, 1), () -> x.addSlot(0, 0, 0),
            () -> x.removeSlot(0), () -> x.moveSlot(0, 0), () -> x.setDuration(0, 0), () -> x.setPause(0, 100),
            () -> x.removeSegment(5), () -> x.moveSegment(0, 5), () -> x.addWord(0, 5), () -> x.load(1)};
        for (Check.Call call : wrong) {
            CHECK.isTrue("throws", Check.outcome(call).startsWith("throws."));
        }
        CHECK.equal("set of the same value and load are changes", 1, x.undo());
        x.moveSegment(2, 2);
        x.setDuration(0, 40);
        x.setPause(0, 9);
        x.keep();
        x.keep();
        CHECK.equal("changes to the same", 5, x.undo());
        ChapterBuilder y = new ChapterBuilder();
        y.load(0);
        CHECK.equal("load of an empty text", 0, y.undo());
    }

    private static void undoLeaves() {
        ChapterBuilder x = Check.show(Samples.SHORT_CHAPTERS);
        Check.loadText(x, "seg 1 1 a;  ?");
        x.append(0x73656731, 0x20316120, 0x3b202020, 0x20202020, 0x20202020);
        x.writeChapters();
        String written = Check.written(x);
        CHECK.equal("undo", 0, x.undo());
        CHECK.equal("no segments", 0, x.count(0));
        CHECK.same("the written text stays", written, Check.written(x));
        CHECK.equal("the position of the error stays", 12, x.errorPosition());
        CHECK.equal("the text buffer stays", 1, x.load(20));
        CHECK.equal("a", 0, x.find(1));
    }
}
