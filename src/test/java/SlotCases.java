/** The cases of 4 SLOTS and of the promises 33 to 39. */
final class SlotCases {
    private SlotCases() {
    }

    static void addTo(Sentences s) {
        s.section("4. SLOTS");
        numbers(s);
        conditions(s);
        costs(s);
        bestPlacement(s);
        realTimes(s);
        addSlot(s);
        removeSlot(s);
        moveSlot(s);
        slot(s);
        placeOf(s);
        choices(s);
    }

    private static void numbers(Sentences s) {
        s.hold("A sponsor slot has a wished speaking time (0 to 9999)", c -> {
            Cases.numberInText(c, "slot ", " 1 0;", 0, 9999, x -> x.slot(0, 0));
            ChapterBuilder x = new ChapterBuilder();
            Cases.taken(c, "wished", 0, 9999, n -> x.addSlot(n, 1, 0));
        });
        s.hold("a length of 1 to 300 seconds", c -> {
            Cases.numberInText(c, "slot 0 ", " 0;", 1, 300, x -> x.slot(0, 1));
            ChapterBuilder x = new ChapterBuilder();
            Cases.taken(c, "length", 1, 300, n -> x.addSlot(0, n, 0));
        });
        s.hold("a reach (0 to 999)", c -> {
            Cases.numberInText(c, "slot 0 1 ", ";", 0, 999, x -> x.slot(0, 2));
            ChapterBuilder x = new ChapterBuilder();
            Cases.taken(c, "reach", 0, 999, n -> x.addSlot(0, 1, n));
        });
        s.hold("There are at most 5 slots", c -> {
            Cases.fine(c, "slot 9 1 0;".repeat(5), 0);
            Cases.error(c, "slot 9 1 0;".repeat(6), -4, 55);
            ChapterBuilder x = new ChapterBuilder();
            for (int slot = 0; slot < 5; slot++) {
                c.equal("addSlot", slot, x.addSlot(9, 1, 0));
            }
            c.raises("a sixth", Samples.STATE, () -> x.addSlot(9, 1, 0));
        });
        s.hold("numbered from 0 in ascending order of their wished times", c -> {
            ChapterBuilder x = new ChapterBuilder();
            for (int wished = 5; wished > 0; wished--) {
                c.equal("ahead of all others", 0, x.addSlot(wished, wished, 0));
            }
            c.same("the slots", "1/1 2/2 3/3 4/4 5/5 ", Cases.slots(x));
            ChapterBuilder y = Check.show("slot 9999 1 0;slot 0 2 0;slot 5000 3 0;slot 4999 4 0;slot 5001 5 0;");
            c.same("from a text", "0/2 4999/4 5000/3 5001/5 9999/1 ", Cases.slots(y));
            c.raisesAll("slot", Samples.INDEX, n -> y.slot(n, 0), Check.beside(0, 4));
        });
        s.hold("slots with the same time are in the order in which they came", c -> {
            ChapterBuilder x = new ChapterBuilder();
            for (int slot = 0; slot < 4; slot++) {
                c.equal("behind those of the same time", slot, x.addSlot(7, slot + 1, 0));
            }
            c.equal("ahead of them", 0, x.addSlot(6, 9, 0));
            c.same("the slots", "6/9 7/1 7/2 7/3 7/4 ", Cases.slots(x));
            ChapterBuilder y = Check.show("slot 7 1 0;slot 8 2 0;slot 7 3 0;slot 8 4 0;slot 7 5 0;");
            c.same("from a text", "7/1 7/3 7/5 8/2 8/4 ", Cases.slots(y));
        });
    }

    private static void conditions(Sentences s) {
        s.hold("the boundaries of the slots ascend with their numbers (no two are the same)", c -> {
            ChapterBuilder x = Cases.row(3, 9, "set 5 0;slot 9 1 99;slot 9 1 99;");
            c.same("two slots at two boundaries", "0 1 ", Cases.places(x));
            x.addSlot(9, 1, 99);
            c.equal("three slots at two boundaries", -1, x.placementCost());
            // the second slot can hold the lowest boundary alone
            ChapterBuilder y = Cases.row(3, 40, "set 5 0;slot 40 1 40;slot 40 1 0;");
            c.equal("they would descend", -1, y.placementCost());
            ChapterBuilder z = Cases.row(6, 9, "set 5 0;" + "slot 27 1 99;".repeat(5));
            c.same("five at five", "0 1 2 3 4 ", Cases.places(z));
        });
        s.hold("the pause of each is at least the setting pause", c -> {
            ChapterBuilder x = Check.show("slot 9 1 99;slot 18 2 99;set 5 0;seg 9 5 a;seg 9 4 a;seg 9 5 a;seg 9 9 a;");
            c.same("5 and 5", "0 2 ", Cases.places(x));
            x.set(4, 6);
            c.equal("the last segment has no boundary", -1, x.placementCost());
            x.setPause(1, 6);
            c.equal("one boundary for two slots", -1, x.placementCost());
            x.setPause(0, 6);
            c.same("6 and 6", "0 1 ", Cases.places(x));
        });
        s.hold("the speaking time of each is at most the reach of the slot away from its wished time", c -> {
            int[][] due = {{40, 0, 0}, {41, 0, -1}, {39, 0, -1}, {45, 5, 0}, {46, 5, -1}, {35, 5, 0}, {34, 5, -1}};
            for (int[] row : due) {
                ChapterBuilder x = Cases.row(2, 40, "slot " + row[0] + " 1 " + row[1] + ";");
                c.equal("wished " + row[0] + " reach " + row[1], row[2], x.placeOf(0));
            }
            ChapterBuilder early = Cases.row(2, 999, "slot 0 1 999;");
            c.equal("999 from 0", 0, early.placeOf(0));
            ChapterBuilder late = Cases.row(11, 900, "slot 9999 1 999;");
            c.equal("9000 from 9999", 9, late.placeOf(0));
            late.setDuration(0, 899);
            c.equal("8999 from 9999", -1, late.placeOf(0));
            c.equal("9990 and 10989 from 9999", -1, Cases.row(32, 999, "slot 9999 1 8;").placeOf(0));
            c.equal("9990 from 9999", 9, Cases.row(32, 999, "slot 9999 1 9;").placeOf(0));
        });
        s.hold("the speaking times of the boundaries of two slots with following numbers differ by at least the setting apart",
                c -> {
                    ChapterBuilder x = Cases.row(4, 50, "slot 50 1 0;slot 100 1 0;slot 150 1 0;");
                    x.set(5, 50);
                    c.same("50 of 50", "0 1 2 ", Cases.places(x));
                    x.set(5, 51);
                    c.equal("50 of 51", -1, x.placementCost());
                    x.removeSlot(1);
                    c.same("100 of 51", "0 2 ", Cases.places(x));
                    x.set(5, 100);
                    c.same("100 of 100", "0 2 ", Cases.places(x));
                    x.set(5, 101);
                    c.equal("100 of 101", -1, x.placementCost());
                    x.set(5, 9999);
                    x.removeSlot(1);
                    c.equal("one slot is apart from none", 0, x.placeOf(0));
                    // 90 seconds if the boundaries 0 and 2 are not too near
                    ChapterBuilder y = Check.show("slot 100 20 60;slot 110 15 80;" + Samples.SHORT_CHAPTERS);
                    y.set(5, 80);
                    c.same("80 of 80", "0 2 ", Cases.places(y));
                    c.equal("80 of 80", 90, y.placementCost());
                    y.set(5, 81);
                    c.same("80 of 81", "0 3 ", Cases.places(y));
                    c.equal("80 of 81", 150, y.placementCost());
                    ChapterBuilder far = Cases.row(12, 999, "set 5 9990;slot 0 1 999;slot 9999 1 999;");
                    c.same("10 segments of 999 seconds between them", "0 10 ", Cases.places(far));
                    far.set(5, 9991);
                    c.equal("one second more", -1, far.placementCost());
                });
    }

    private static void costs(Sentences s) {
        s.hold("Its cost is the sum of these distances from the wished times", c -> {
            // all four boundaries are cuts
            ChapterBuilder x = Cases.turns(5, 50, "slot 45 1 9;slot 157 1 9;");
            c.equal("5 and 7", 12, x.placementCost());
            x.moveSlot(0, 50);
            c.equal("0 and 7", 7, x.placementCost());
            x.moveSlot(1, 143);
            c.equal("0 and 7", 7, x.placementCost());
            ChapterBuilder most = Cases.turns(12, 900, "set 1 900;slot 9999 1 999;");
            c.equal("99", 99, most.placementCost());
            most.setDuration(10, 1);
            most.setDuration(11, 1);
            most.setPause(10, 0);
            c.equal("999: 9000 of 9999", 999, most.placementCost());
        });
        s.hold("plus 20 for each slot whose boundary is no cut of the best division", c -> {
            ChapterBuilder x = Check.show("slot 40 1 0;slot 180 1 0;" + Samples.SHORT_CHAPTERS);
            c.equal("one of two is no cut", 20, x.placementCost());
            x.set(3, 100);
            c.equal("there are no cuts", 40, x.placementCost());
            x.removeSlot(0);
            x.set(3, 40);
            c.equal("a cut", 0, x.placementCost());
            ChapterBuilder five = Cases.row(6, 50, "set 3 100;slot 50 1 0;slot 100 1 0;slot 150 1 0;slot 200 1 0;"
                    + "slot 250 1 0;");
            c.equal("five", 100, five.placementCost());
        });
        s.hold("(or for each slot if there is no best division)", c -> {
            ChapterBuilder x = Check.show("slot 40 1 0;slot 180 1 0;set 0 226;" + Samples.HARBOUR);
            c.equal("no best division", -1, x.chapters());
            c.equal("two slots", 40, x.placementCost());
            x.removeSlot(0);
            c.equal("one slot", 20, x.placementCost());
            x.removeSlot(0);
            c.equal("no slot", 0, x.placementCost());
            ChapterBuilder y = Check.show("slot 120 1 0;" + Samples.SHORT_CHAPTERS);
            c.equal("a cut", 0, y.placementCost());
            y.set(0, 226);
            c.equal("it is none any more", 20, y.placementCost());
        });
    }

    private static void bestPlacement(Sentences s) {
        s.hold("The best placement has the least cost", c -> {
            ChapterBuilder x = Check.show("slot 71 20 60;" + Samples.SHORT_CHAPTERS);
            // 40 is no cut: 31 + 20, and 120 is one: 49
            c.equal("49 of 51 and 49", 49, x.placementCost());
            c.equal("its place", 2, x.placeOf(0));
            x.moveSlot(0, 69);
            c.equal("49 of 49 and 51", 49, x.placementCost());
            c.equal("its place", 0, x.placeOf(0));
            // the first slot gives way: 50 and 100, not 100 and none
            ChapterBuilder y = Cases.turns(3, 50, "slot 100 1 99;slot 100 2 0;");
            c.same("both", "0 1 ", Cases.places(y));
            c.equal("both", 50, y.placementCost());
        });
        s.hold("of several, the one whose slot 0 has the lowest boundary", c -> {
            ChapterBuilder one = Cases.turns(5, 50, "slot 125 1 99;");
            c.equal("25 and 25", 1, one.placeOf(0));
            ChapterBuilder x = Check.show("slot 100 20 60;slot 110 15 80;" + Samples.SHORT_CHAPTERS);
            c.equal("{0, 2} and {2, 3} cost the same", 90, x.placementCost());
            c.same("the lower one", "0 2 ", Cases.places(x));
        });
        s.hold("then slot 1, and so on", c -> {
            ChapterBuilder two = Cases.turns(6, 50, "slot 50 1 0;slot 175 1 99;");
            c.same("slot 1", "0 2 ", Cases.places(two));
            ChapterBuilder three = Cases.turns(6, 50, "slot 50 1 0;slot 100 1 0;slot 225 1 99;");
            c.same("slot 2", "0 1 3 ", Cases.places(three));
            ChapterBuilder five = Cases.turns(8, 50, "slot 50 1 0;slot 100 1 0;slot 150 1 0;slot 200 1 0;slot 325 1 99;");
            c.same("slot 4", "0 1 2 3 5 ", Cases.places(five));
        });
        s.hold("There may be none.", c -> {
            ChapterBuilder x = Cases.row(2, 50, "slot 50 1 0;");
            c.equal("one boundary for one slot", 20, x.placementCost());
            x.addSlot(50, 1, 999);
            c.equal("one boundary for two slots", -1, x.placementCost());
            c.equal("one segment", -1, Cases.row(1, 50, "slot 50 1 999;").placementCost());
            c.equal("no segment", -1, Check.show("slot 0 1 999;").placementCost());
        });
        s.hold("(Without slots there is one, with the cost 0.)", c -> {
            c.equal("no segments", 0, new ChapterBuilder().placementCost());
            c.equal("no boundary", 0, Cases.row(1, 50, "").placementCost());
            c.equal("no best division", 0, Cases.undivided().placementCost());
            ChapterBuilder x = Check.show("slot 1 1 0;");
            c.equal("none", -1, x.placementCost());
            x.removeSlot(0);
            c.equal("the last one removed", 0, x.placementCost());
        });
    }

    private static void realTimes(Sentences s) {
        s.hold("plus the lengths of the slots that the best placement puts at boundaries ahead of it", c -> {
            ChapterBuilder x = Check.show("slot 120 25 0;set 4 0;" + Samples.SHORT_CHAPTERS);
            c.answers("one slot at 2", n -> x.segment(n, 4), 0, 0, 1, 40, 2, 70, 3, 145, 4, 205);
            x.addSlot(40, 300, 0);
            c.answers("another at 0", n -> x.segment(n, 4), 0, 0, 1, 340, 2, 370, 3, 445, 4, 505);
            ChapterBuilder most = Cases.row(32, 999, "slot 999 300 0;slot 1998 300 0;slot 2997 300 0;slot 3996 300 0;"
                    + "slot 4995 300 0;");
            c.answers("the latest time", n -> most.segment(n, 4), 0, 0, 1, 1299, 5, 6495, 6, 7494, 31, 32469);
        });
        s.hold("without a best placement it is the speaking time", c -> {
            ChapterBuilder x = Check.show("slot 120 25 0;slot 121 1 0;" + Samples.SHORT_CHAPTERS);
            c.equal("none", -1, x.placementCost());
            c.answers("segment", n -> x.segment(n, 4), 0, 0, 1, 40, 2, 70, 3, 120, 4, 180);
        });
    }

    private static void addSlot(Sentences s) {
        s.section("Promise 33");
        s.hold("Adds a slot.", c -> {
            ChapterBuilder x = new ChapterBuilder();
            x.addSlot(5, 6, 7);
            c.equal("slots", 1, x.count(2));
            c.answers("slot", what -> x.slot(0, what), 0, 5, 1, 6, 2, 7);
        });
        s.hold("`wished`: the wished speaking time, 0 to 9999", c -> {
            ChapterBuilder x = new ChapterBuilder();
            x.addSlot(0, 1, 0);
            x.addSlot(9999, 1, 0);
            c.answers("wished", n -> x.slot(n, 0), 0, 0, 1, 9999);
        });
        s.hold("`length`: 1 to 300", c -> {
            ChapterBuilder x = new ChapterBuilder();
            x.addSlot(1, 1, 0);
            x.addSlot(2, 300, 0);
            c.answers("length", n -> x.slot(n, 1), 0, 1, 1, 300);
        });
        s.hold("`reach`: 0 to 999", c -> {
            ChapterBuilder x = new ChapterBuilder();
            x.addSlot(1, 1, 0);
            x.addSlot(2, 1, 999);
            c.answers("reach", n -> x.slot(n, 2), 0, 0, 1, 999);
        });
        s.hold("Returns the number that it gets.", c -> {
            ChapterBuilder x = new ChapterBuilder();
            c.equal("the first", 0, x.addSlot(50, 1, 0));
            c.equal("a later one", 1, x.addSlot(51, 2, 0));
            c.equal("an earlier one", 0, x.addSlot(49, 3, 0));
            c.equal("one of the same time", 2, x.addSlot(50, 4, 0));
            c.equal("the latest", 4, x.addSlot(51, 5, 0));
        });
        s.hold("Throws `IllegalArgumentException` if an argument is out of range", c -> {
            ChapterBuilder x = new ChapterBuilder();
            c.raisesAll("wished", Samples.ARGUMENT, n -> x.addSlot(n, 1, 0), Check.beside(0, 9999));
            c.raisesAll("length", Samples.ARGUMENT, n -> x.addSlot(0, n, 0), Check.beside(1, 300));
            c.raisesAll("reach", Samples.ARGUMENT, n -> x.addSlot(0, 1, n), Check.beside(0, 999));
            c.equal("slots", 0, x.count(2));
        });
        s.hold("Throws `IllegalStateException` if there are 5 slots", c -> {
            ChapterBuilder x = Check.show("slot 9 1 0;".repeat(4));
            c.equal("the fifth", 4, x.addSlot(9, 1, 0));
            c.raises("a sixth", Samples.STATE, () -> x.addSlot(0, 1, 0));
            c.raises("a sixth again", Samples.STATE, () -> x.addSlot(9999, 300, 999));
            x.removeSlot(4);
            c.equal("room again", 0, x.addSlot(0, 1, 0));
        });
    }

    private static void removeSlot(Sentences s) {
        s.section("Promise 34");
        s.hold("Removes a slot.", c -> {
            ChapterBuilder x = Check.show("slot 1 1 1;slot 2 2 2;slot 3 3 3;");
            x.removeSlot(1);
            c.same("the others", "1/1 3/3 ", Cases.slots(x));
            c.equal("reach", 3, x.slot(1, 2));
        });
        s.hold("`slot`: number of a slot", c -> {
            ChapterBuilder x = Check.show("slot 1 1 1;slot 2 2 2;slot 3 3 3;slot 4 4 4;slot 5 5 5;");
            x.removeSlot(4);
            c.same("the last one", "1/1 2/2 3/3 4/4 ", Cases.slots(x));
            x.removeSlot(0);
            c.same("the first one", "2/2 3/3 4/4 ", Cases.slots(x));
        });
        s.hold("Returns the number of slots afterwards.", c -> {
            ChapterBuilder x = Check.show("slot 9 1 0;".repeat(5));
            for (int left = 4; left >= 0; left--) {
                c.equal("left", left, x.removeSlot(0));
            }
        });
        s.hold("Throws `IndexOutOfBoundsException` if the slot does not exist", c -> {
            ChapterBuilder x = Check.show("slot 1 1 1;slot 2 2 2;");
            c.raisesAll("removeSlot", Samples.INDEX, n -> x.removeSlot(n), Check.beside(0, 1));
            c.raisesAll("of none", Samples.INDEX, n -> new ChapterBuilder().removeSlot(n), -1, 0);
            ChapterBuilder full = Check.show("slot 9 1 0;".repeat(5));
            c.raisesAll("of 5", Samples.INDEX, n -> full.removeSlot(n), Check.beside(0, 4));
        });
    }

    private static void moveSlot(Sentences s) {
        s.section("Promise 35");
        s.hold("it gets a new number like a slot that is added last", c -> {
            ChapterBuilder x = Check.show("slot 10 1 7;slot 20 2 8;slot 30 3 9;");
            c.equal("behind those of the same time", 2, x.moveSlot(0, 30));
            c.same("the slots", "20/2 30/3 30/1 ", Cases.slots(x));
            c.equal("its reach goes with it", 7, x.slot(2, 2));
            c.equal("to its own time, behind the other", 2, x.moveSlot(1, 30));
            c.same("the slots", "20/2 30/1 30/3 ", Cases.slots(x));
            c.equal("to the time of the first, behind it", 1, x.moveSlot(2, 20));
            c.same("the slots", "20/2 20/3 30/1 ", Cases.slots(x));
        });
        s.hold("`slot`: number of a slot", c -> {
            ChapterBuilder x = Check.show("slot 1 1 0;slot 2 2 0;slot 3 3 0;slot 4 4 0;slot 5 5 0;");
            c.equal("the first of 5", 4, x.moveSlot(0, 6));
            c.equal("the last of 5", 0, x.moveSlot(4, 1));
            c.same("the slots", "1/1 2/2 3/3 4/4 5/5 ", Cases.slots(x));
        });
        s.hold("`wished`: 0 to 9999", c -> {
            ChapterBuilder x = Check.show("slot 1 1 0;slot 2 2 0;");
            c.equal("9999", 1, x.moveSlot(0, 9999));
            c.equal("0", 0, x.moveSlot(1, 0));
            c.same("the slots", "0/1 2/2 ", Cases.slots(x));
        });
        s.hold("Returns the number that it has then.", c -> {
            ChapterBuilder x = Check.show("slot 10 1 0;slot 20 2 0;slot 30 3 0;");
            c.equal("the same", 1, x.moveSlot(1, 25));
            c.equal("a lower one", 0, x.moveSlot(1, 5));
            c.equal("the highest", 2, x.moveSlot(0, 31));
            c.equal("the only slot", 0, Check.show("slot 1 1 0;").moveSlot(0, 1));
        });
        s.hold("Throws `IndexOutOfBoundsException` if the slot does not exist", c -> {
            ChapterBuilder x = Check.show("slot 1 1 0;slot 2 2 0;");
            c.raisesAll("moveSlot", Samples.INDEX, n -> x.moveSlot(n, 5), Check.beside(0, 1));
            c.raisesAll("of none", Samples.INDEX, n -> new ChapterBuilder().moveSlot(n, 5), -1, 0);
        });
        s.hold("Throws `IllegalArgumentException` if wished is out of range", c -> {
            ChapterBuilder x = Check.show("slot 1 1 0;slot 2 2 0;");
            c.raisesAll("moveSlot to", Samples.ARGUMENT, n -> x.moveSlot(0, n), Check.beside(0, 9999));
            c.same("the slots stay", "1/1 2/2 ", Cases.slots(x));
        });
    }

    private static void slot(Sentences s) {
        s.section("Promise 36");
        ChapterBuilder x = Check.show("slot 0 1 0;slot 9999 300 999;");
        s.hold("Returns a number of a slot.",
                c -> c.answers("slot", n -> x.slot(n, 0) + x.slot(n, 1) + x.slot(n, 2), 0, 1, 1, 11298));
        s.hold("`slot`: number of a slot", c -> {
            ChapterBuilder full = Check.show("slot 1 1 0;slot 2 2 0;slot 3 3 0;slot 4 4 0;slot 5 5 0;");
            c.answers("the first and the last of 5", n -> full.slot(n, 0), 0, 1, 4, 5);
        });
        s.hold("0: its wished time", c -> c.answers("wished", n -> x.slot(n, 0), 0, 0, 1, 9999))
                .and("Returns the requested number.");
        s.hold("1: its length", c -> c.answers("length", n -> x.slot(n, 1), 0, 1, 1, 300));
        s.hold("2: its reach", c -> c.answers("reach", n -> x.slot(n, 2), 0, 0, 1, 999));
        s.hold("Throws `IndexOutOfBoundsException` if the slot does not exist", c -> {
            c.raisesAll("slot", Samples.INDEX, n -> x.slot(n, 0), Check.beside(0, 1));
            c.raisesAll("of none", Samples.INDEX, n -> new ChapterBuilder().slot(n, 0), -1, 0);
        });
        s.hold("Throws `IllegalArgumentException` for any other what",
                c -> c.raisesAll("what", Samples.ARGUMENT, what -> x.slot(0, what), Check.beside(0, 2)));
    }

    private static void placeOf(Sentences s) {
        s.section("Promise 37");
        s.hold("Returns the boundary that the best placement gives a slot.", c -> {
            ChapterBuilder x = Check.show("slot 40 1 0;slot 180 1 0;" + Samples.SHORT_CHAPTERS);
            c.answers("placeOf", n -> x.placeOf(n), 0, 0, 1, 3);
            x.set(5, 141);
            c.answers("not far enough apart", n -> x.placeOf(n), 0, -1, 1, -1);
        });
        s.hold("`slot`: number of a slot", c -> {
            ChapterBuilder x = Cases.row(32, 50, "set 5 0;slot 50 1 0;slot 400 1 0;slot 800 1 0;slot 1200 1 0;"
                    + "slot 1550 1 0;");
            c.answers("the first and the last of 5", n -> x.placeOf(n), 0, 0, 4, 30);
        });
        s.hold("Returns the number of the boundary; NONE if there is no best placement.", c -> {
            ChapterBuilder x = Check.show("slot 40 1 0;slot 180 1 0;slot 190 1 0;" + Samples.SHORT_CHAPTERS);
            c.answers("the third has none", n -> x.placeOf(n), 0, -1, 1, -1, 2, -1);
            c.equal("no segments", -1, Check.show("slot 0 1 0;").placeOf(0));
        });
        s.hold("Throws `IndexOutOfBoundsException` if the slot does not exist", c -> {
            ChapterBuilder x = Check.show("slot 40 1 0;slot 180 1 0;" + Samples.SHORT_CHAPTERS);
            c.raisesAll("placeOf", Samples.INDEX, n -> x.placeOf(n), Check.beside(0, 1));
            c.raisesAll("without slots", Samples.INDEX, n -> new ChapterBuilder().placeOf(n), -1, 0);
            c.raisesAll("without a placement", Samples.INDEX, n -> Check.show("slot 0 1 0;").placeOf(n), -1, 1);
        });
        s.section("Promise 38");
        s.hold("Returns the cost of the best placement.", c -> {
            c.equal("90", 90, Check.show("slot 100 20 60;slot 110 15 80;" + Samples.SHORT_CHAPTERS).placementCost());
            c.equal("0", 0, Check.show("slot 120 1 0;" + Samples.SHORT_CHAPTERS).placementCost());
        });
        s.hold("Returns the cost; NONE if there is none.", c -> {
            c.equal("out of reach", -1, Check.show("slot 121 1 0;" + Samples.SHORT_CHAPTERS).placementCost());
            c.equal("no segments", -1, Check.show("slot 0 1 0;").placementCost());
            c.equal("no slots", 0, new ChapterBuilder().placementCost());
        });
    }

    private static void choices(Sentences s) {
        s.section("Promise 39");
        s.hold("Counts the boundaries that a slot alone could have", c -> {
            ChapterBuilder x = Check.show("slot 100 20 60;slot 110 15 80;set 5 9999;" + Samples.SHORT_CHAPTERS);
            c.equal("there is no placement of both", -1, x.placementCost());
            c.answers("choices", n -> x.choices(n), 0, 2, 1, 3);
        });
        s.hold("with a pause that is long enough", c -> {
            ChapterBuilder x = Check.show("slot 110 15 999;" + Samples.HARBOUR);
            x.set(4, 4);
            c.equal("4", 4, x.choices(0));
            x.set(4, 5);
            c.equal("5", 3, x.choices(0));
            x.set(4, 9);
            c.equal("9", 3, x.choices(0));
            x.set(4, 10);
            c.equal("10", 0, x.choices(0));
        });
        s.hold("and within its reach", c -> {
            int[][] due = {{0, 0}, {9, 0}, {10, 1}, {69, 1}, {70, 3}, {999, 3}};
            for (int[] row : due) {
                ChapterBuilder x = Check.show("slot 110 1 " + row[0] + ";" + Samples.HARBOUR);
                c.equal("reach " + row[0], row[1], x.choices(0));
            }
        });
        s.hold("`slot`: number of a slot", c -> {
            ChapterBuilder x = Cases.row(32, 50, "slot 1 1 0;slot 2 1 48;slot 3 1 0;slot 4 1 0;slot 800 1 999;");
            c.answers("of 5", n -> x.choices(n), 0, 0, 1, 1, 4, 31);
        });
        s.hold("Returns the number of boundaries.", c -> {
            c.equal("no segments", 0, Check.show("slot 0 1 999;").choices(0));
            c.equal("one segment", 0, Cases.row(1, 50, "slot 50 1 999;").choices(0));
            c.equal("two segments", 1, Cases.row(2, 50, "slot 50 1 999;").choices(0));
        });
        s.hold("Throws `IndexOutOfBoundsException` if the slot does not exist", c -> {
            ChapterBuilder x = Check.show("slot 40 1 0;slot 180 1 0;" + Samples.SHORT_CHAPTERS);
            c.raisesAll("choices", Samples.INDEX, n -> x.choices(n), Check.beside(0, 1));
            c.raisesAll("without slots", Samples.INDEX, n -> new ChapterBuilder().choices(n), -1, 0);
        });
    }
}
