/** The cases of 6 CHANGES AND TEXTS that are about texts. */
final class TextCases {
    private static final String FULL = "seg 1 1 a;".repeat(32);
    private static final String FIVE = "slot 1 1 1;".repeat(5);

    private TextCases() {
    }

    static void addTo(Sentences s) {
        s.section("6. CHANGES AND TEXTS");
        grammar(s);
        statements(s);
        tokens(s);
        spaces(s);
        meaning(s);
        firstError(s);
        syntaxErrors(s);
        valueErrors(s);
        tooMany(s);
        bothCodes(s);
    }

    private static void grammar(Sentences s) {
        s.hold("A show is read from a text of at most 900 bytes", c -> {
            Cases.fine(c, " ".repeat(890) + "seg 1 1 a;", 1);
            Cases.error(c, " ".repeat(899) + "?", -2, 899);
            Cases.error(c, " ".repeat(890) + "seg 1 1 a ", -2, 900);
            Cases.fine(c, "set 2 1; ".repeat(100), 0);
            ChapterBuilder x = Check.show("set 3 1;".repeat(112) + "    ");
            c.equal("the 112 statements of one text", 1, x.setting(3));
        });
        s.hold("text = { statement \";\" } .", c -> {
            Cases.fine(c, "", 0);
            Cases.fine(c, "set 2 1;", 0);
            Cases.fine(c, "seg 1 1 a;slot 1 1 1;set 2 1;seg 2 2 b;", 2);
            Cases.error(c, ";", -2, 0);
            Cases.error(c, "set 2 1;;", -2, 8);
            Cases.error(c, "set 2 1", -2, 7);
            Cases.error(c, "set 2 1 set 2 1;", -2, 8);
            Cases.error(c, "seg 1 1 a;slot 1 1 1", -2, 20);
            Cases.error(c, "set 2 1:", -2, 7);
        });
        s.hold("Braces mean any number of repetitions", c -> {
            Cases.fine(c, "", 0);
            Cases.fine(c, "set 2 1;".repeat(112), 0);
            Cases.fine(c, "seg 1 1 a;", 1);
            Cases.fine(c, "seg 1 1 a b c d e f g h;", 1);
            Cases.fine(c, FULL, 32);
        });
    }

    private static void statements(Sentences s) {
        s.hold("statement = \"seg\" N N NAME { NAME }", c -> {
            Cases.error(c, "seg;", -2, 3);
            Cases.error(c, "seg a;", -2, 4);
            Cases.error(c, "seg 1;", -2, 5);
            Cases.error(c, "seg 1 a;", -2, 6);
            Cases.error(c, "seg 1 1;", -2, 7);
            Cases.error(c, "seg 1 1 1 a;", -2, 8);
            Cases.error(c, "seg 1 1 a 1;", -2, 10);
            Cases.error(c, "seg 1 1 a b 1;", -2, 12);
        });
        s.hold("\"slot\" N N N", c -> {
            Cases.fine(c, "slot 1 1 1;", 0);
            Cases.error(c, "slot;", -2, 4);
            Cases.error(c, "slot 1;", -2, 6);
            Cases.error(c, "slot 1 1;", -2, 8);
            Cases.error(c, "slot 1 1 1 1;", -2, 11);
            Cases.error(c, "slot 1 1 a;", -2, 9);
            Cases.error(c, "slot 1 1 1 a;", -2, 11);
        });
        s.hold("\"set\" N N .", c -> {
            Cases.fine(c, "set 1 1;", 0);
            Cases.error(c, "set;", -2, 3);
            Cases.error(c, "set 1;", -2, 5);
            Cases.error(c, "set 1 1 1;", -2, 8);
            Cases.error(c, "set 1 a;", -2, 6);
            Cases.error(c, "set 1 1 a;", -2, 8);
        });
        s.hold("quoted parts stand for themselves", c -> {
            for (String word : new String[] {"s", "se", "sez", "segs", "Seg", "SEG", "slo", "slots", "sets", "st", "gse",
                "aseg", "zzzzzzzz", "segsegseg"}) {
                Cases.error(c, word + " 1 1 1;", -2, 0);
                Cases.error(c, word + " 1 1 a;", -2, 0);
            }
            Cases.error(c, "seg 1 1 a,", -2, 9);
        });
    }

    private static void tokens(Sentences s) {
        s.hold("A word is the longest possible sequence of the letters a to z", c -> {
            c.equal("one word", 1, Check.show("seg 1 1 ab;").segment(0, 2));
            c.equal("two words", 2, Check.show("seg 1 1 a b;").segment(0, 2));
            Cases.error(c, "seta 1 1;", -2, 0);
            Cases.error(c, "seg 1 1 abcdefghijk;", -2, 8);
            for (char sign : new char[] {'`', '{', 'A', 'Z', '@', '[', '-', '_', '0', (char) 225, (char) 0}) {
                Cases.error(c, "seg 1 1 a" + sign + "b;", -2, 9);
                Cases.error(c, "seg 1 1 " + sign + ";", -2, 8);
            }
            ChapterBuilder x = Check.show("seg 1 1 az;");
            c.equal("a and z are letters", 0, x.find(Check.code("az")));
        });
        s.hold("NAME is a word of at most 8 letters", c -> {
            Cases.fine(c, "seg 1 1 abcdefgh;", 1);
            Cases.error(c, "seg 1 1 abcdefghi;", -2, 8);
            Cases.fine(c, "seg 1 1 a abcdefgh;", 1);
            Cases.error(c, "seg 1 1 a abcdefghi;", -2, 10);
            // so many letters that their code would pass the range of a long
            Cases.error(c, "seg 1 1 " + "a".repeat(13) + ";", -2, 8);
            Cases.error(c, "seg 1 1 " + "z".repeat(800) + ";", -2, 8);
        });
        s.hold("(where a NAME is allowed, the quoted words are NAMES, too)", c -> {
            ChapterBuilder x = Check.show("seg 1 1 seg slot set seg;");
            c.equal("one segment", 1, x.count(0));
            c.equal("three words", 3, x.count(1));
            c.equal("seg", 0, x.find(Check.code("seg")));
            c.equal("slot", 1, x.find(Check.code("slot")));
            c.equal("set", 2, x.find(Check.code("set")));
            Cases.error(c, "seg 1 1 a seg 1 1 b;", -2, 14);
        });
        s.hold("N is the longest possible sequence of digits", c -> {
            ChapterBuilder x = Check.show("seg 123 45 a;");
            c.equal("123", 123, x.segment(0, 0));
            c.equal("45", 45, x.segment(0, 1));
            ChapterBuilder zeros = Check.show("seg " + "0".repeat(200) + "7 00 a;");
            c.equal("7 behind zeros", 7, zeros.segment(0, 0));
            c.equal("00", 0, zeros.segment(0, 1));
            Cases.error(c, "seg 1234 5 a;", -3, 4);
            Cases.error(c, "seg " + "9".repeat(800) + " 1 a;", -3, 4);
            for (char sign : new char[] {'/', ':', '.', '-', '+', 'x'}) {
                Cases.error(c, "seg 1" + sign + "2 a;", -2, 5);
                Cases.error(c, "seg " + sign + "1 2 a;", -2, 4);
            }
        });
    }

    private static void spaces(Sentences s) {
        s.hold("Spaces (byte 32) may stand in front of every token and at the end of the text.", c -> {
            ChapterBuilder x = Check.show("  seg   7   8   a   b   ;   slot  1  2  3  ;  set  2  4  ;   ");
            c.answers("segment", n -> x.segment(0, n), 0, 7, 1, 8, 2, 2);
            c.answers("slot", n -> x.slot(0, n), 0, 1, 1, 2, 2, 3);
            c.equal("setting", 4, x.setting(2));
            Cases.fine(c, " ", 0);
            Cases.fine(c, " ".repeat(900), 0);
            ChapterBuilder y = Check.show("seg7 8a b;slot1 2 3;set2 4;");
            c.answers("no more than needed", n -> y.segment(0, n), 0, 7, 1, 8, 2, 2);
            for (int sign : new int[] {0, 9, 10, 13, 31, 33, 127, 128, 160, 255}) {
                Cases.error(c, "seg 1 1 a;" + (char) sign, -2, 10);
                Cases.error(c, "seg" + (char) sign + "1 1 a;", -2, 3);
                Cases.error(c, (char) sign + "seg 1 1 a;", -2, 0);
            }
            Cases.error(c, "s eg 1 1 a;", -2, 0);
        });
    }

    private static void meaning(Sentences s) {
        s.hold("of a segment its duration and pause, the NAMES are its words", c -> {
            ChapterBuilder x = Check.show("seg 11 12 b a b;");
            c.answers("segment", n -> x.segment(0, n), 0, 11, 1, 12, 2, 3);
            c.answers("words", k -> x.wordOf(0, k), 0, 0, 1, 1, 2, 0);
        });
        s.hold("of a slot its wished time, length and reach", c -> {
            ChapterBuilder x = Check.show("slot 11 12 13;");
            c.answers("slot", n -> x.slot(0, n), 0, 11, 1, 12, 2, 13);
        });
        s.hold("of a setting its number and value (a later one replaces an earlier one", c -> {
            ChapterBuilder x = Check.show("set 3 10;set 3 11;set 4 12;set 3 9;");
            c.equal("the last one", 9, x.setting(3));
            c.equal("another one", 12, x.setting(4));
            Cases.error(c, "set 3 10;set 3 101;", -3, 15);
        });
        s.hold("settings that are not mentioned have their first values)", c -> {
            ChapterBuilder x = new ChapterBuilder();
            for (int n = 0; n < 6; n++) {
                x.set(n, 1);
            }
            Check.loadText(x, "set 3 77;");
            c.answers("setting", n -> x.setting(n), 0, 60, 1, 600, 2, 2, 3, 77, 4, 5, 5, 30);
            x.set(0, 1);
            x.load(0);
            c.answers("an empty text", n -> x.setting(n), 0, 60, 3, 40);
        });
    }

    private static void firstError(Sentences s) {
        s.hold("Reading stops at the first error.", c -> {
            Cases.error(c, "set 9 9;set ?", -3, 4);
            Cases.error(c, "seg 0 100 abcdefghi", -3, 4);
            Cases.error(c, "seg 1 100 abcdefghi", -3, 6);
            Cases.error(c, "? set 9 9;", -2, 0);
            Cases.error(c, "slot 10000 0 1000 ?", -3, 5);
            Cases.error(c, FULL + "seg 0 0 ?", -4, 320);
            Cases.error(c, FIVE + "slot 10000 ?", -4, 55);
        });
    }

    private static void syntaxErrors(Sentences s) {
        s.hold("SYNTAX_ERROR: a byte or token that is not allowed here (at its first byte)", c -> {
            Cases.error(c, "abc", -2, 0);
            Cases.error(c, "  abc", -2, 2);
            Cases.error(c, "123", -2, 0);
            Cases.error(c, "  123", -2, 2);
            Cases.error(c, "seg   abc 1 a;", -2, 6);
            Cases.error(c, "seg 1 1 a   123;", -2, 12);
            Cases.error(c, "seg 1 1 ?", -2, 8);
            Cases.error(c, "seg 1 1 a ?", -2, 10);
            Cases.error(c, "set 1 1 slot", -2, 8);
            // a number that is not allowed is no wrong value
            Cases.error(c, "set 1 1 99999;", -2, 8);
            Cases.error(c, "99999;", -2, 0);
        });
        s.hold("or an unexpected end of the text (at the length of the text)", c -> {
            String[] texts = {"seg", "seg 1", "seg 1 1", "seg 1 1 a", "slot", "slot 1", "slot 1 1", "slot 1 1 1", "set",
                "set 1", "set 1 1"};
            for (String text : texts) {
                Cases.error(c, text, -2, text.length());
                Cases.error(c, text + "   ", -2, text.length() + 3);
                Cases.error(c, " ".repeat(900 - text.length()) + text, -2, 900);
            }
            // the bytes behind the length do not belong to the text
            ChapterBuilder x = new ChapterBuilder();
            Check.appendText(x, "seg 1 1 a b;");
            c.equal("load", -2, x.load(9));
            c.equal("its end", 9, x.errorPosition());
        });
    }

    private static void valueErrors(Sentences s) {
        s.hold("VALUE_ERROR: a number that is out of its range (at its first digit).", c -> {
            Cases.error(c, "seg 0 1 a;", -3, 4);
            Cases.error(c, "seg 1000 1 a;", -3, 4);
            Cases.error(c, "seg 1 100 a;", -3, 6);
            Cases.error(c, "slot 10000 1 1;", -3, 5);
            Cases.error(c, "slot 1 0 1;", -3, 7);
            Cases.error(c, "slot 1 301 1;", -3, 7);
            Cases.error(c, "slot 1 1 1000;", -3, 9);
            Cases.error(c, "set 6 1;", -3, 4);
            int[][] ranges = {{1, 9999}, {1, 9999}, {1, 5}, {0, 100}, {0, 99}, {0, 9999}};
            for (int n = 0; n < 6; n++) {
                Cases.error(c, "set " + n + " " + (ranges[n][1] + 1) + ";", -3, 6);
                Cases.fine(c, "set " + n + " " + ranges[n][1] + ";", 0);
                if (ranges[n][0] > 0) {
                    Cases.error(c, "set " + n + " 0;", -3, 6);
                }
                Cases.fine(c, "set " + n + " " + ranges[n][0] + ";", 0);
            }
            // at its first digit, if that is a zero, too; and before what is missing behind it
            Cases.error(c, "seg    0001000 1 a;", -3, 7);
            Cases.error(c, "seg 1000", -3, 4);
            Cases.error(c, "set 6", -3, 4);
            Cases.error(c, "slot 1 1 1000", -3, 9);
        });
    }

    private static void tooMany(Sentences s) {
        s.hold("TOO_MANY: the word \"seg\" of a 33rd segment", c -> {
            Cases.fine(c, FULL, 32);
            Cases.error(c, FULL + "seg 1 1 a;", -4, 320);
            Cases.error(c, FULL + "   seg", -4, 323);
            Cases.fine(c, FULL + "slot 1 1 1;set 2 1;", 32);
        });
        s.hold("the word \"slot\" of a sixth slot", c -> {
            Cases.fine(c, FIVE, 0);
            Cases.error(c, FIVE + "slot 1 1 1;", -4, 55);
            Cases.error(c, FIVE + "   slot", -4, 58);
            Cases.fine(c, FIVE + "seg 1 1 a;set 2 1;", 1);
        });
        s.hold("the ninth NAME of a segment", c -> {
            Cases.fine(c, "seg 1 1 a b c d e f g h;", 1);
            Cases.error(c, "seg 1 1 a b c d e f g h i;", -4, 24);
            Cases.error(c, "seg 1 1 a b c d e f g h    ij", -4, 27);
            Cases.error(c, "seg 1 1 a a a a a a a a a", -4, 24);
            Cases.fine(c, "seg 1 1 a b c d e f g h;seg 1 1 a b c d e f g h;", 2);
        });
        s.hold("the NAME that would be the 25th different word", c -> {
            Cases.fine(c, Samples.LETTERS + "seg 1 1 a x m;", 4);
            Cases.error(c, Samples.LETTERS + "seg 1 1 a x m y;", -4, Samples.LETTERS.length() + 14);
            Cases.error(c, Samples.LETTERS + "seg 1 1   yz", -4, Samples.LETTERS.length() + 10);
            Cases.fine(c, Samples.LETTERS + "seg 1 1 x x x x x x x x;", 4);
        });
    }

    private static void bothCodes(Sentences s) {
        s.hold("a word of more than 8 letters is no NAME, but a SYNTAX_ERROR", c -> {
            Cases.error(c, "seg 1 1 abcdefghi;", -2, 8);
            Cases.error(c, "seg 1 1 a b c d e f g h abcdefghi;", -2, 24);
            Cases.error(c, Samples.LETTERS + "seg 1 1 abcdefghi;", -2, Samples.LETTERS.length() + 8);
        });
        s.hold("If several error codes fit the same position, the first one in this list is reported", c -> {
            Cases.error(c, "seg 1 1 a b c d e f g h abcdefghi", -2, 24);
            Cases.error(c, "seg 1 1 a b c d e f g h 9", -2, 24);
            Cases.error(c, "seg 1 1 a b c d e f g h 99999", -2, 24);
            Cases.error(c, FULL + "segs 1 1 a;", -2, 320);
            Cases.error(c, FULL + "se", -2, 320);
            Cases.error(c, FIVE + "slots 1 1 1;", -2, 55);
            Cases.error(c, FIVE + "slo", -2, 55);
            // the ninth of a segment, that would be the 25th of the show
            String words = "seg 1 1 a b c d e f g h;seg 1 1 i j k l m n o p;seg 1 1 q r s t u v w x;";
            Cases.error(c, words + "seg 1 1 a b c d e f g h y;", -4, words.length() + 24);
        });
    }
}
