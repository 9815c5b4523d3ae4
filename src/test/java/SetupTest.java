/** Promises 1 to 7: a new object, append, load, errorPosition, count, setting, set. */
public final class SetupTest {
    private static final Check CHECK = new Check();

    public static void main(String[] args) {
        newObject();
        append();
        load();
        loadReplaces();
        syntaxErrors();
        valueErrors();
        tooMany();
        errorPosition();
        count();
        settings();
        CHECK.end("SetupTest");
    }

    private static void newObject() {
        ChapterBuilder x = new ChapterBuilder();
        for (int what = 0; what <= 5; what++) {
            CHECK.equal("new count " + what, 0, x.count(what));
        }
        int[] first = {60, 600, 2, 40, 5, 30};
        for (int setting = 0; setting <= 5; setting++) {
            CHECK.equal("new setting " + setting, first[setting], x.setting(setting));
        }
        CHECK.equal("new load", 0, x.load(0));
        CHECK.raises("new load 1", Samples.ARGUMENT, () -> new ChapterBuilder().load(1));
        CHECK.raises("new undo", Samples.STATE, () -> new ChapterBuilder().undo());
        CHECK.raises("new carried", Samples.STATE, () -> new ChapterBuilder().carried(0));
        CHECK.raises("new writtenByte", Samples.INDEX, () -> new ChapterBuilder().writtenByte(0));
        CHECK.raises("new segment", Samples.INDEX, () -> new ChapterBuilder().segment(0, 0));
        CHECK.equal("new placementCost", 0, x.placementCost());
    }

    private static void append() {
        ChapterBuilder x = new ChapterBuilder();
        for (int i = 1; i <= 45; i++) {
            CHECK.equal("append " + i, 20 * i, x.append(0x20202020, 0x20202020, 0x20202020, 0x20202020, 0x20202020));
        }
        for (int i = 0; i < 2; i++) {
            CHECK.raises("append over 900", Samples.STATE, () -> x.append(1, 2, 3, 4, 5));
        }
        CHECK.raises("load over 900", Samples.ARGUMENT, () -> x.load(901));
        CHECK.equal("load 900", 0, x.load(900));
        CHECK.equal("append to the emptied buffer", 20, x.append(0, 0, 0, 0, 0));

        ChapterBuilder order = new ChapterBuilder();
        order.append(0x73656731, 0x32203361, 0x62636465, 0x66206768, 0x69206a3b); // seg12 3abcdef ghi j;
        CHECK.equal("the bytes in order", 1, order.load(20));
        CHECK.equal("duration", 12, order.segment(0, 0));
        CHECK.equal("pause", 3, order.segment(0, 1));
        CHECK.equal("abcdef", 0, order.find(Check.code("abcdef")));
        CHECK.equal("ghi", 1, order.find(Check.code("ghi")));
        CHECK.equal("j", 2, order.find(Check.code("j")));
        // a negative number has a byte above 127, which is no sign but makes an error
        order.append(-1, 0, 0, 0, 0);
        CHECK.equal("byte 255", -2, order.load(20));
    }

    private static void load() {
        ChapterBuilder x = new ChapterBuilder();
        Check.appendText(x, Samples.HARBOUR);
        for (int wrong : Samples.FAR) {
            CHECK.raises("load " + wrong, Samples.ARGUMENT, () -> x.load(wrong));
        }
        CHECK.equal("load", 5, x.load(Samples.HARBOUR.length()));
        CHECK.equal("word 2 of segment 0", 0, x.wordOf(0, 2));
        CHECK.equal("words in the order of their mention", 4, x.find(Check.code("storm")));
        CHECK.raises("the buffer is empty", Samples.ARGUMENT, () -> x.load(1));
        CHECK.equal("a text of spaces", 0, Check.loadText(x, "   "));
        CHECK.equal("no spaces needed", 2, Check.loadText(x, "seg1 1a;seg2 2b;"));
        CHECK.equal("spaces everywhere", 1, Check.loadText(x, "  seg   7   8   a   b  ;   "));
        CHECK.equal("its words", 2, x.segment(0, 2));
        CHECK.equal("leading zeros", 1, Check.loadText(x, "seg 0000000000000000007 00 a;set 00001 0000000009;"));
        CHECK.equal("7", 7, x.segment(0, 0));
        CHECK.equal("9", 9, x.setting(1));
        CHECK.equal("names like keywords", 1, Check.loadText(x, "seg 1 1 seg slot set seg;"));
        CHECK.equal("their number", 3, x.count(1));
        CHECK.equal("only the first bytes are read", 1, cutOff("seg 1 1 a;garbage!", 10));
        CHECK.equal("no byte behind them: a semicolon", -2, cutOff("seg 1 1 a;", 9));
        CHECK.equal("no byte behind them: digits", -3, cutOff("set 2 66", 7));
        CHECK.equal("no byte behind them: letters", 2, wordsOf("seg 1 1 a b", "c;"));
        CHECK.equal("a word of 8 letters", 1, Check.loadText(x, "seg 999 99 zzzzzzzz;"));
        CHECK.equal("found", 0, x.find(Check.code("zzzzzzzz")));
        CHECK.equal("a later setting replaces", 0, Check.loadText(x, "set 3 10;set 3 11;"));
        CHECK.equal("11", 11, x.setting(3));
        CHECK.equal("slots", 0, Check.loadText(x, "slot 50 1 2;slot 9999 300 999;slot 50 3 4;slot 0 5 0;"));
        int[][] due = {{0, 5, 0}, {50, 1, 2}, {50, 3, 4}, {9999, 300, 999}};
        for (int slot = 0; slot < 4; slot++) {
            for (int what = 0; what < 3; what++) {
                CHECK.equal("slot " + slot + " " + what, due[slot][what], x.slot(slot, what));
            }
        }
    }

    private static int cutOff(String text, int length) {
        ChapterBuilder x = new ChapterBuilder();
        Check.appendText(x, text);
        return x.load(length);
    }

    /** An error at the end of a text, with more text behind that end. */
    private static int wordsOf(String text, String behind) {
        ChapterBuilder x = new ChapterBuilder();
        Check.appendText(x, text + behind);
        CHECK.equal("load", -2, x.load(text.length()));
        CHECK.equal("the end of the text", text.length(), x.errorPosition());
        x.load(0);
        return Check.show(text + ";").count(1);
    }

    private static void loadReplaces() {
        ChapterBuilder x = Check.show("set 2 5;slot 1 1 1;" + Samples.HARBOUR);
        x.keep();
        String before = Check.portrait(x);
        CHECK.equal("a text with an error", -2, Check.loadText(x, "set 2 4;seg 1 1 new;seg"));
        CHECK.same("the show stays", before, Check.portrait(x));
        CHECK.raises("the buffer is empty after an error", Samples.ARGUMENT, () -> x.load(1));
        CHECK.equal("undo of keep: an error is no change", 1, x.undo());
        x.keep();
        CHECK.equal("a new show", 1, Check.loadText(x, "seg 1 1 new;"));
        CHECK.equal("its words are numbered anew", 0, x.find(Check.code("new")));
        CHECK.equal("the old ones are gone", -1, x.find(Check.code("sea")));
        CHECK.equal("settings are at their first values", 2, x.setting(2));
        CHECK.equal("no slots", 0, x.count(2));
        CHECK.raises("no version is kept", Samples.STATE, () -> x.carried(0));
    }

    private static void error(String text, int code, int position) {
        ChapterBuilder x = new ChapterBuilder();
        CHECK.equal(text, code, Check.loadText(x, text));
        CHECK.equal("position in " + text, position, x.errorPosition());
    }

    private static void syntaxErrors() {
        error("x", -2, 0);
        error(";", -2, 0);
        error("  9", -2, 2);
        error("Seg 1 1 a;", -2, 0);
        error("segs 1 1 a;", -2, 0);
        error(" segabcdefghijklmnop 1", -2, 1);
        error("seg", -2, 3);
        error("seg ", -2, 4);
        error("seg 1", -2, 5);
        error("seg 1 1", -2, 7);
        error("seg 1 1  ", -2, 9);
        error("seg 1 1 a", -2, 9);
        error("seg 1 1 a b  ", -2, 13);
        error("seg 1 1;", -2, 7);
        error("seg 1 1 2;", -2, 8);
        error("seg a 1 b;", -2, 4);
        error("seg 1 a b;", -2, 6);
        error("seg 1 1 a 2;", -2, 10);
        error("seg 1 1 aB;", -2, 9);
        error("seg 1 -1 a;", -2, 6);
        error("seg 1 1 a;;", -2, 10);
        error("seg 1 1 abcdefghi;", -2, 8);
        error("seg 1 1 a abcdefghi;", -2, 10);
        error("seg 1 1 a b c d e f g h abcdefghi;", -2, 24);
        error("slot 1 1;", -2, 8);
        error("slot 1 1 1 1;", -2, 11);
        error("slot 1 1 1 a;", -2, 11);
        error("slot 1 1 1", -2, 10);
        error("set 1;", -2, 5);
        error("set 1 1 1;", -2, 8);
        error("set1 1\n;", -2, 6);
        error("seg 1 1 a;\u0000", -2, 10);
        error("seg 1 1 a;\u00e1", -2, 10);
        error("seg 1 1 {;", -2, 8);
        error("seg 1 1 `;", -2, 8);
        error("seg 1 / a;", -2, 6);
        error("seg 1 : a;", -2, 6);
        error("seg 1 1 a".concat(" ".repeat(891)), -2, 900);
        error(" ".repeat(891).concat("seg 1 1 a"), -2, 900);
        error(" ".repeat(893).concat("seg 1 1"), -2, 900);
        error(" ".repeat(897).concat("seg"), -2, 900);
        error(" ".repeat(890).concat("seg 1 1 a;"), 1, -1);
        // the first error counts, even if the next is of another kind
        error("seg 1 1 a b? seg 0", -2, 11);
    }

    private static void valueErrors() {
        error("seg 0 1 a;", -3, 4);
        error("seg 1000 1 a;", -3, 4);
        error("seg 1 100 a;", -3, 6);
        error("seg   00000000000000000000000 1 a;", -3, 6);
        error("seg 99999999999999999999999999999999 1 a;", -3, 4);
        error("seg 4294967297 1 a;", -3, 4);
        error("slot 10000 1 1;", -3, 5);
        error("slot 1 0 1;", -3, 7);
        error("slot 1 301 1;", -3, 7);
        error("slot 1 1 1000;", -3, 9);
        error("set 6 1;", -3, 4);
        error("set 0 0;", -3, 6);
        error("set 0 10000;", -3, 6);
        error("set 1 0;", -3, 6);
        error("set 1 10000;", -3, 6);
        error("set 2 0;", -3, 6);
        error("set 2 6;", -3, 6);
        error("set 3 101;", -3, 6);
        error("set 4 100;", -3, 6);
        error("set 5 10000;", -3, 6);
        error("seg 1000", -3, 4);
        error("set 9", -3, 4);
        error("set 9 ?", -3, 4);
        error("set 3 0;set 4 0;set 5 0;set 5 9999;set 0 9999;set 1 9999;set 2 5;set 3 100;set 4 99;", 0, -1);
    }

    private static String repeat(String part, int times) {
        return part.repeat(times);
    }

    private static void tooMany() {
        String full = repeat("seg 1 1 a;", 32);
        error(full, 32, -1);
        error(full + "  seg 0 0 0", -4, 322);
        error(full + "segx 1 1 a;", -2, 320);
        String slots = repeat("slot 1 1 1;", 5);
        error(slots, 0, -1);
        error(slots + " slot 99999", -4, 56);
        error("seg 1 1 a b c d e f g h;", 1, -1);
        error("seg 1 1 a a a a a a a a a;", -4, 24);
        error("seg 1 1 a a a a a a a a ;seg 1 1 a a a a a a a a  bc", -4, 50);
        String words = "seg 1 1 a b c d e f g h;seg 1 1 i j k l m n o p;seg 1 1 q r s t u v w x;";
        error(words, 3, -1);
        error(words + "seg 1 1 a x y;", -4, 84);
        error(words + "seg 1 1 a x abcdefghi;", -2, 84);
        error(words + "seg 1 1 x x x;", 4, -1);
    }

    private static void errorPosition() {
        ChapterBuilder x = new ChapterBuilder();
        CHECK.equal("no call", -1, x.errorPosition());
        Check.loadText(x, "seg 1 1 a;?");
        CHECK.equal("an error", 10, x.errorPosition());
        Check.appendText(x, "seg 1 1 a;");
        CHECK.raises("load", Samples.ARGUMENT, () -> x.load(21));
        CHECK.equal("a call that throws changes nothing", 10, x.errorPosition());
        x.load(10);
        CHECK.equal("no error", -1, x.errorPosition());
        Check.loadText(x, "?");
        CHECK.equal("at 0", 0, x.errorPosition());
        x.undo();
        CHECK.equal("undo leaves it", 0, x.errorPosition());
    }

    private static void count() {
        ChapterBuilder x = Check.show("slot 1 1 1;slot 2 2 2;" + Samples.HARBOUR);
        int[] due = {5, 5, 2, 225, 11, 3};
        for (int what = 0; what <= 5; what++) {
            CHECK.equal("count " + what, due[what], x.count(what));
        }
        for (int wrong : new int[] {-1, 6, Integer.MIN_VALUE, Integer.MAX_VALUE}) {
            CHECK.raises("count " + wrong, Samples.ARGUMENT, () -> x.count(wrong));
        }
        x.set(4, 9);
        CHECK.equal("a pause that is just long enough", 3, x.count(5));
        x.set(4, 10);
        CHECK.equal("no pause is long enough", 0, x.count(5));
        x.set(4, 0);
        CHECK.equal("the last segment has no boundary", 4, x.count(5));
        x.removeSegment(4);
        CHECK.equal("a word that stands nowhere", 5, x.count(1));
        CHECK.equal("words of all segments", 10, x.count(4));
    }

    private static void settings() {
        ChapterBuilder x = new ChapterBuilder();
        int[] first = {60, 600, 2, 40, 5, 30};
        for (int wrong : new int[] {-1, 6, Integer.MIN_VALUE, Integer.MAX_VALUE}) {
            CHECK.raises("setting " + wrong, Samples.INDEX, () -> x.setting(wrong));
            CHECK.raises("set " + wrong, Samples.INDEX, () -> x.set(wrong, -5));
        }
        for (int setting = 0; setting <= 5; setting++) {
            int s = setting;
            int low = Model.RANGES[s][0];
            int high = Model.RANGES[s][1];
            CHECK.raises("set too low " + s, Samples.ARGUMENT, () -> x.set(s, low - 1));
            CHECK.raises("set too high " + s, Samples.ARGUMENT, () -> x.set(s, high + 1));
            CHECK.raises("set far too high " + s, Samples.ARGUMENT, () -> x.set(s, Integer.MAX_VALUE));
            CHECK.equal("the first value " + s, first[s], x.set(s, low));
            CHECK.equal("the lowest value " + s, low, x.setting(s));
            CHECK.equal("the lowest value before " + s, low, x.set(s, high));
            CHECK.equal("the highest value " + s, high, x.setting(s));
        }
        CHECK.equal("least may be above most", 9999, x.set(1, 1));
    }
}
