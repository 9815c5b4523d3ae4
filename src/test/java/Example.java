public final class Example {
    public static void main(String[] args) {
        ChapterBuilder builder = new ChapterBuilder();
        int segments = load(builder, "set 0 100; seg 80 9 sea boat; seg 70 7 boat sea sea; "
                + "seg 90 6 tea cup; seg 65 0 cup tea milk; slot 120 30 60;");
        System.out.println(segments + " segments, " + builder.chapters() + " chapters");
        System.out.println("the slot is at boundary " + builder.placeOf(0) + ", the cost " + builder.placementCost());
        System.out.println(written(builder));

        builder.keep();
        builder.moveSegment(0, 2);
        System.out.println("second 10 is now second " + builder.carried(10));
        System.out.println(builder.undo() + " changes can still be undone");

        int error = load(builder, "seg 80 9 sea; seg 0 1 tea;");
        System.out.println("error " + error + " at byte " + builder.errorPosition());
        try {
            builder.change(3);
        } catch (IndexOutOfBoundsException e) {
            System.out.println("4 segments have no boundary 3");
        }
    }

    static int load(ChapterBuilder builder, String text) {
        for (int at = 0; at < text.length(); at += 20) {
            builder.append(four(text, at), four(text, at + 4), four(text, at + 8), four(text, at + 12),
                    four(text, at + 16));
        }
        return builder.load(text.length());
    }

    // four bytes as one number, the first byte the most significant one; spaces stand behind the text
    static int four(String text, int from) {
        int bytes = 0;
        for (int at = from; at < from + 4; at++) {
            bytes = bytes << 8 | (at < text.length() ? text.charAt(at) : ' ');
        }
        return bytes;
    }

    static String written(ChapterBuilder builder) {
        StringBuilder text = new StringBuilder();
        int length = builder.writeChapters();
        for (int index = 0; index < length; index++) {
            text.append((char) builder.writtenByte(index));
        }
        return text.toString();
    }
}
