/** Shows whose numbers the tests have worked out by hand. */
final class Samples {
    /**
     * Words: sea 0, boat 1, market 2, tea 3, storm 4. Speaking times: 0, 40, 70, 120, 180, the show 225.
     * Changes: 60, 100, 67, 100. From 60 to 600 seconds the divisions {}, {1} and {2} are allowed.
     */
    static final String HARBOUR = "seg 40 9 sea boat sea;seg 30 4 sea boat;seg 50 9 market tea;"
            + "seg 60 9 market tea tea;seg 45 7 storm;";

    /** With the least duration 40 the best division is {1, 2, 3}, with the worth 147. */
    static final String SHORT_CHAPTERS = "set 0 40;" + HARBOUR;

    /** 24 different words, a to x, eight in each of three segments. */
    static final String LETTERS = "seg 1 0 a b c d e f g h;seg 1 0 i j k l m n o p;seg 1 0 q r s t u v w x;";

    static final Class<IllegalArgumentException> ARGUMENT = IllegalArgumentException.class;
    static final Class<IllegalStateException> STATE = IllegalStateException.class;
    static final Class<IndexOutOfBoundsException> INDEX = IndexOutOfBoundsException.class;
    static final Class<java.util.NoSuchElementException> ELEMENT = java.util.NoSuchElementException.class;
    static final int[] FAR = {Integer.MIN_VALUE, -1000, -1, Integer.MAX_VALUE};

    private Samples() {
    }
}
