import java.util.ArrayList;
import java.util.List;
import java.util.regex.Matcher;
import java.util.regex.Pattern;

/** Reads a text for the model: all tokens first, then the statements. */
final class ModelText {
    private static final Pattern TOKEN = Pattern.compile(" *([a-z]+|[0-9]+|.)", Pattern.DOTALL);
    private static final Pattern REST = Pattern.compile(" *");

    final Model.State state = new Model.State();
    int errorCode;
    int errorPosition = -1;
    private final List<String> tokens = new ArrayList<>();
    private final List<Integer> positions = new ArrayList<>();
    private int next;

    private static final class Stop extends RuntimeException {
        private static final long serialVersionUID = 1;
    }

    ModelText(String text) {
        int at = 0;
        Matcher matcher = TOKEN.matcher(text);
        while (!REST.matcher(text.substring(at)).matches()) {
            matcher.find(at);
            tokens.add(matcher.group(1));
            positions.add(matcher.start(1));
            at = matcher.end();
        }
        tokens.add("");
        positions.add(text.length());
        try {
            while (next < tokens.size() - 1) {
                statement();
            }
        } catch (Stop stop) {
            errorPosition = positions.get(next);
        }
    }

    private void must(boolean right, int code) {
        if (!right) {
            errorCode = code;
            throw new Stop();
        }
    }

    private String token() {
        return tokens.get(next);
    }

    private void statement() {
        String kind = token();
        must(List.of("seg", "slot", "set").contains(kind), -2);
        must(!kind.equals("seg") || state.segments.size() < 32, -4);
        must(!kind.equals("slot") || state.slots.size() < 5, -4);
        next++;
        if (kind.equals("seg")) {
            segment();
        } else if (kind.equals("slot")) {
            Model.put(state, new int[] {number(0, 9999), number(1, 300), number(0, 999)});
        } else {
            int setting = number(0, 5);
            state.settings[setting] = number(Model.RANGES[setting][0], Model.RANGES[setting][1]);
        }
        must(token().equals(";"), -2);
        next++;
    }

    private void segment() {
        Model.Segment segment = new Model.Segment();
        segment.duration = number(1, 999);
        segment.pause = number(0, 99);
        segment.identity = state.segments.size();
        do {
            String name = token();
            must(name.matches("[a-z]{1,8}"), -2);
            must(segment.words.size() < 8, -4);
            if (!state.words.contains(name)) {
                must(state.words.size() < 24, -4);
                state.words.add(name);
            }
            segment.words.add(name);
            next++;
        } while (token().matches("[a-z]+"));
        state.segments.add(segment);
    }

    private int number(int lowest, int highest) {
        must(token().matches("[0-9]+"), -2);
        java.math.BigInteger value = new java.math.BigInteger(token());
        boolean small = value.bitLength() < 31;
        must(small && value.intValue() >= lowest && value.intValue() <= highest, -3);
        next++;
        return value.intValue();
    }
}
