/** Promises 33 to 39: slots. */
public final class SlotsTest {
    private static final Check CHECK = new Check();

    public static void main(String[] args) {
        addSlot();
        removeSlot();
        moveSlot();
        slot();
        placement();
        ties();
        noPlacement();
        choices();
        CHECK.end("SlotsTest");
    }

    private static String wishes(ChapterBuilder x) {
        StringBuilder text = new StringBuilder();
        for (int slot = 0; slot < x.count(2); slot++) {
            text.append(x.slot(slot, 0)).append('/').append(x.slot(slot, 1)).append(' ');
        }
        return text.toString();
    }

    private static void addSlot() {
        ChapterBuilder x = new ChapterBuilder();
        int[][] wrong = {{-1, 1, 0}, {10000, 1, 0}, {0, 0, 0}, {0, 301, 0}, {0, 1, -1}, {0, 1, 1000},
            {Integer.MIN_VALUE, 1, 0}, {0, Integer.MAX_VALUE, 0}, {0, 1, Integer.MIN_VALUE}};
        for (int[] w : wrong) {
            CHECK.raises("addSlot " + w[0] + " " + w[1] + " " + w[2], Samples.ARGUMENT,
                    () -> x.addSlot(w[0], w[1], w[2]));
        }
        CHECK.equal("the first", 0, x.addSlot(50, 1, 0));
        CHECK.equal("a later one", 1, x.addSlot(9999, 300, 999));
        CHECK.equal("an earlier one", 0, x.addSlot(0, 3, 0));
        CHECK.equal("behind one of the same time", 2, x.addSlot(50, 4, 0));
        CHECK.equal("behind two of the same time", 3, x.addSlot(50, 5, 0));
        CHECK.same("slots", "0/3 50/1 50/4 50/5 9999/300 ", wishes(x));
        CHECK.raises("a sixth", Samples.STATE, () -> x.addSlot(1, 1, 1));
        for (int[] w : wrong) {
            CHECK.raises("wrong before sixth", Samples.ARGUMENT, () -> x.addSlot(w[0], w[1], w[2]));
        }
        CHECK.equal("five", 5, x.count(2));
    }

    private static void removeSlot() {
        ChapterBuilder x = Check.show("slot 1 1 1;slot 2 2 2;slot 3 3 3;");
        for (int wrong : new int[] {-1, 3, Integer.MIN_VALUE, Integer.MAX_VALUE}) {
            CHECK.raises("removeSlot " + wrong, Samples.INDEX, () -> x.removeSlot(wrong));
        }
        CHECK.equal("two left", 2, x.removeSlot(1));
        CHECK.same("slots", "1/1 3/3 ", wishes(x));
        CHECK.equal("reach", 3, x.slot(1, 2));
        CHECK.equal("one left", 1, x.removeSlot(1));
        CHECK.equal("none left", 0, x.removeSlot(0));
        CHECK.raises("none left", Samples.INDEX, () -> x.removeSlot(0));
        CHECK.equal("cost without slots", 0, x.placementCost());
    }

    private static void moveSlot() {
        ChapterBuilder x = Check.show("slot 10 1 7;slot 20 2 8;slot 30 3 9;");
        CHECK.equal("behind the last", 2, x.moveSlot(0, 30));
        CHECK.same("slots", "20/2 30/3 30/1 ", wishes(x));
        CHECK.equal("reach goes with it", 7, x.slot(2, 2));
        CHECK.equal("to its own time, behind the other", 2, x.moveSlot(1, 30));
        CHECK.same("slots", "20/2 30/1 30/3 ", wishes(x));
        CHECK.equal("to the begin", 0, x.moveSlot(2, 0));
        CHECK.equal("to the end", 2, x.moveSlot(1, 9999));
        CHECK.same("slots", "0/3 30/1 9999/2 ", wishes(x));
        CHECK.equal("in its place", 1, x.moveSlot(1, 40));
        for (int wrong : new int[] {-1, 3, Integer.MIN_VALUE, Integer.MAX_VALUE}) {
            CHECK.raises("moveSlot " + wrong, Samples.INDEX, () -> x.moveSlot(wrong, -1));
        }
        for (int wrong : new int[] {-1, 10000, Integer.MIN_VALUE, Integer.MAX_VALUE}) {
            CHECK.raises("moveSlot to " + wrong, Samples.ARGUMENT, () -> x.moveSlot(0, wrong));
        }
        for (int i = 0; i < 2; i++) {
            x.addSlot(5, 5, 5);
        }
        CHECK.equal("one of five", 4, x.moveSlot(0, 9999));
    }

    private static void slot() {
        ChapterBuilder x = Check.show("slot 5 6 7;");
        for (int what = 0; what < 3; what++) {
            CHECK.equal("slot " + what, 5 + what, x.slot(0, what));
        }
        for (int wrong : new int[] {-1, 3, Integer.MIN_VALUE, Integer.MAX_VALUE}) {
            CHECK.raises("what " + wrong, Samples.ARGUMENT, () -> x.slot(0, wrong));
        }
        for (int wrong : new int[] {-1, 1, Integer.MIN_VALUE, Integer.MAX_VALUE}) {
            CHECK.raises("slot " + wrong, Samples.INDEX, () -> x.slot(wrong, 3));
            CHECK.raises("placeOf " + wrong, Samples.INDEX, () -> x.placeOf(wrong));
            CHECK.raises("choices " + wrong, Samples.INDEX, () -> x.choices(wrong));
        }
    }

    private static void placement() {
        // boundaries at 40, 70, 120 and 180; the pause of the one at 70 is too short; cuts at 70, 120 and 180
        ChapterBuilder x = Check.show(Samples.SHORT_CHAPTERS);
        x.addSlot(100, 20, 60);
        CHECK.equal("place", 2, x.placeOf(0));
        CHECK.equal("cost", 20, x.placementCost());
        x.moveSlot(0, 70);
        CHECK.equal("no cut costs 20: 30 + 20 and 50", 0, x.placeOf(0));
        CHECK.equal("cost", 50, x.placementCost());
        x.moveSlot(0, 71);
        CHECK.equal("31 + 20 and 49", 2, x.placeOf(0));
        CHECK.equal("cost", 49, x.placementCost());
        x.set(4, 4);
        CHECK.equal("a pause just long enough", 1, x.placeOf(0));
        CHECK.equal("cost", 1, x.placementCost());
        x.set(0, 500);
        CHECK.equal("no best division: 20 for each", 21, x.placementCost());
        x.set(0, 40);
        x.set(4, 9);
        CHECK.equal("pauses of 9", 2, x.placeOf(0));
    }

    private static void ties() {
        ChapterBuilder x = Check.show("slot 100 20 60;slot 110 15 80;" + Samples.SHORT_CHAPTERS);
        CHECK.equal("two placements cost 90", 90, x.placementCost());
        CHECK.equal("the lowest for slot 0", 0, x.placeOf(0));
        CHECK.equal("slot 1", 2, x.placeOf(1));
        CHECK.equal("real time behind both", 180 + 35, x.segment(4, 4));
        CHECK.equal("real time behind one", 60, x.segment(1, 4));
        CHECK.equal("ahead of both", 0, x.segment(0, 4));
        x.set(5, 80);
        CHECK.equal("exactly apart", 90, x.placementCost());
        x.set(5, 81);
        CHECK.equal("not far enough apart", 150, x.placementCost());
        CHECK.equal("slot 0", 0, x.placeOf(0));
        CHECK.equal("slot 1", 3, x.placeOf(1));
        x.set(5, 0);
        CHECK.equal("no two at one boundary", 90, x.placementCost());
        x.set(5, 141);
        CHECK.equal("none", -1, x.placementCost());
        CHECK.equal("none", -1, x.placeOf(0));
        // one slot between two boundaries that are equally far: the lower one
        ChapterBuilder y = Check.show("slot 150 1 30;" + Samples.SHORT_CHAPTERS);
        CHECK.equal("30 and 30", 2, y.placeOf(0));
        CHECK.equal("cost", 30, y.placementCost());
    }

    private static void noPlacement() {
        ChapterBuilder x = Check.show("slot 120 1 0;" + Samples.SHORT_CHAPTERS);
        CHECK.equal("reach 0", 0, x.placementCost());
        x.moveSlot(0, 121);
        CHECK.equal("one second beyond its reach", -1, x.placementCost());
        CHECK.equal("one second beyond its reach", -1, x.placeOf(0));
        CHECK.equal("no choice", 0, x.choices(0));
        ChapterBuilder one = Check.show("slot 9 1 999;seg 9 9 a;");
        CHECK.equal("no boundary", -1, one.placementCost());
        one.removeSlot(0);
        CHECK.equal("no slot", 0, one.placementCost());
        // the boundaries ascend with the numbers, whatever the wishes would gain by a swap
        ChapterBuilder two = Check.show("set 0 1;set 5 0;slot 40 1 999;slot 40 2 0;seg 40 9 a;seg 40 9 b;seg 40 9 c;");
        CHECK.equal("slot 1 holds the lowest boundary", -1, two.placementCost());
        two.moveSlot(1, 40);
        CHECK.equal("the same order", -1, two.placementCost());
        two.moveSlot(0, 40);
        CHECK.equal("now slot 0 holds it", 40, two.placementCost());
        CHECK.equal("and slot 1 the next", 1, two.placeOf(1));
    }

    private static void choices() {
        ChapterBuilder x = Check.show("slot 100 20 60;slot 110 15 80;" + Samples.SHORT_CHAPTERS);
        CHECK.equal("choices 0", 2, x.choices(0));
        CHECK.equal("choices 1", 3, x.choices(1));
        x.set(5, 9999);
        CHECK.equal("a slot alone", 3, x.choices(1));
        x.set(4, 0);
        CHECK.equal("all pauses", 4, x.choices(1));
        x.set(4, 10);
        CHECK.equal("no pause", 0, x.choices(1));
        ChapterBuilder two = Check.show("slot 9 1 99;seg 9 9 a;seg 9 9 b;");
        CHECK.equal("no boundary behind the last segment", 1, two.choices(0));
        CHECK.equal("no segments", 0, Check.show("slot 1 1 1;").choices(0));
    }
}
